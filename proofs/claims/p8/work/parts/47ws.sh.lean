set_option maxHeartbeats 2000000 in
set_option maxRecDepth 20000 in
theorem s_X12_laysBlank_vn (g : pv_G) {T : List mv_T} {m : Nat → Nat → Int32} {n : Nat → Nat → Int64} {r : Nat → Value} (hT : TX T) (I : IV BB m) (x0 : Int32) (hl0 : 0 ≤ x0.toInt) (hh0 : x0.toInt ≤ 7) : PM g mX12_laysBlank yX12_laysBlank (sqV T BB (wl [(123, 123, some 40), (149, 149, none)]) r m (fun m' => (m' 123 40).toInt = nu m x0.toInt 0 ∧ ∀ p, p < (nu m x0.toInt 0).toNat → ∃ v, IsN (m 128) (40 * x0.toInt.toNat) (m 124 x0.toInt.toNat).toInt.toNat p v ∧ m' 149 p = m 125 (40 * x0.toInt.toNat + v))) 1 0 0 [.ref 123, .int x0, .int 0] (mk T m n r) := by
  have Kp : fr (wl [(123, 123, some 40), (149, 149, none)]) m m := fr.rf
  have z55 : 0 ≤ (m 123 40).toInt ∧ (m 123 40).toInt ≤ 40 := I 123 40
  refine PM.of 1 (lo := [.ref 123, .int x0, .int 0, pv_U]) rfl (by decide) rfl rfl (Nat.le_of_ble_eq_true rfl) ?_
  have kn : 0 ≤ (m 124 x0.toInt.toNat).toInt ∧ (m 124 x0.toInt.toNat).toInt ≤ 40 := I 124 _
  refine pv_aload_n (M := mX12_laysBlank) 0 dX12_laysBlank_0 1 rfl rfl rfl ?_
  refine pv_iconst (M := mX12_laysBlank) (v := 0) dX12_laysBlank_1 2 rfl (by decide) ?_
  refine iv_put (M := mX12_laysBlank) (l1 := 0) (l2 := 40) dX12_laysBlank_2 FX12 40 wd1213 (by decide) rfl (tl123 hT) rfl rfl rfl I rfl (by decide) (by decide) 5 rfl (fun m2 e5 I3 => ?_)
  have K4 := Kp.set e5 rfl
  have w6 : (m2 123 40).toInt = 0 := by rw [e5, up2_eq] <;> rfl
  refine pv_iconst (M := mX12_laysBlank) (v := 0) dX12_laysBlank_5 6 rfl (by decide) ?_
  refine pv_istore_n (M := mX12_laysBlank) 3 (lo2 := [.ref 123, .int x0, .int 0, .int 0]) dX12_laysBlank_6 7 rfl rfl (by decide) rfl rfl ?_
  have lp13 : ∀ (fuel12 : Nat) (y7 : Int32) (m8 : Nat → Nat → Int32) (n9 : Nat → Nat → Int64), (0 ≤ y7.toInt) → (y7.toInt ≤ 40) → ((m8 123 40).toInt ≤ y7.toInt) → (y7.toInt ≤ (m 124 x0.toInt.toNat).toInt) → (RWL m m8 x0.toInt.toNat y7.toInt.toNat) → IV BB m8 → fr (wl [(123, 123, some 40), (149, 149, none)]) m m8 → ((40 - y7.toInt) : Int).toNat < fuel12 → PV none g mX12_laysBlank (sqV T BB (wl [(123, 123, some 40), (149, 149, none)]) r m (fun m' => (m' 123 40).toInt = nu m x0.toInt 0 ∧ ∀ p, p < (nu m x0.toInt 0).toNat → ∃ v, IsN (m 128) (40 * x0.toInt.toNat) (m 124 x0.toInt.toNat).toInt.toNat p v ∧ m' 149 p = m 125 (40 * x0.toInt.toNat + v))) 1 0 0 7 [.ref 123, .int x0, .int 0, .int y7] [] (mk T m8 n9 r) := by
    intro fuel12
    induction fuel12 with
    | zero => intro y7 m8 n9 b15 b16 b17 b18 b19 I10 K11 z20; omega
    | succ fuel12 ih14 =>
      intro y7 m8 n9 b15 b16 b17 b18 b19 I10 K11 z20
      have z21 : 0 ≤ (m8 123 40).toInt ∧ (m8 123 40).toInt ≤ 40 := I10 123 40
      have kg := (show RWL m m8 x0.toInt.toNat y7.toInt.toNat by assumption)
      refine pv_iload_n (M := mX12_laysBlank) 3 dX12_laysBlank_7 8 rfl rfl rfl ?_
      refine pv_aload_n (M := mX12_laysBlank) 0 dX12_laysBlank_8 9 rfl rfl rfl ?_
      refine mv_get (M := mX12_laysBlank) (v := .ref 124) dX12_laysBlank_9 FX12 5 wd1178 (by decide) (tl123 hT) rfl rfl 12 rfl ?_
      refine pv_iload_n (M := mX12_laysBlank) 1 dX12_laysBlank_12 13 rfl rfl rfl ?_
      refine iv_iald (M := mX12_laysBlank) (X := x0.toInt) (l1 := 0) (l2 := 40) dX12_laysBlank_13 (tl124 hT) rfl (by omega) (by omega) I10 (fun _ => rfl) 14 rfl (fun v23 ev23 pv23 qv23 => ?_)
      have k14 : v23.toInt = (m 124 x0.toInt.toNat).toInt := congrArg Int32.toInt (ev23.trans (K11 124 _ rfl))
      refine pv_icmp_ge (M := mX12_laysBlank) (tgt := 74) dX12_laysBlank_14 17 rfl (by decide) (fun c25 => ?_) (fun c25 => ?_)
      · have c25 := iv_le (X := v23.toInt) (Y := y7.toInt) c25 rfl rfl
        exact pv_vret (M := mX12_laysBlank) dX12_laysBlank_74 rfl ⟨_, _, rfl, rfl, I10, K11, (by have e : y7.toInt.toNat = (m 124 x0.toInt.toNat).toInt.toNat := (by omega); have q := kg; rw [e] at q; have z := nu_0 (m := m) (b := x0.toInt); exact ⟨by rw [z]; exact q.1, fun p hp => q.2 p (by omega)⟩)⟩
      · have c25 := iv_nle (X := v23.toInt) (Y := y7.toInt) c25 rfl rfl
        refine pv_iload_n (M := mX12_laysBlank) 2 dX12_laysBlank_17 18 rfl rfl rfl ?_
        refine pv_if_ne (M := mX12_laysBlank) (tgt := 38) dX12_laysBlank_18 21 rfl (by decide) (fun q => absurd (by decide) q) (fun _ => ?_)
        refine pv_aload_n (M := mX12_laysBlank) 0 dX12_laysBlank_21 22 rfl rfl rfl ?_
        refine mv_get (M := mX12_laysBlank) (v := .ref 128) dX12_laysBlank_22 FX12 9 wd1182 (by decide) (tl123 hT) rfl rfl 25 rfl ?_
        refine pv_bipush (M := mX12_laysBlank) (v := 40) dX12_laysBlank_25 27 rfl (by decide) ?_
        refine pv_iload_n (M := mX12_laysBlank) 1 dX12_laysBlank_27 28 rfl rfl rfl ?_
        refine iv_imul (M := mX12_laysBlank) (X := 40) (Y := x0.toInt) dX12_laysBlank_28 29 rfl (by decide) rfl (by omega) (by omega) (fun v27 ev27 => ?_)
        refine pv_iload_n (M := mX12_laysBlank) 3 dX12_laysBlank_29 30 rfl rfl rfl ?_
        refine iv_iadd (M := mX12_laysBlank) (X := v27.toInt) (Y := y7.toInt) dX12_laysBlank_30 31 rfl rfl rfl (by omega) (by omega) (fun v28 ev28 => ?_)
        refine iv_zald (M := mX12_laysBlank) (X := v28.toInt) (l1 := 0) (l2 := 1) dX12_laysBlank_31 (tl128 hT) rfl (by omega) (by omega) I10 (fun _ => rfl) 32 rfl (fun v29 ev29 pv29 qv29 => ?_)
        have k32 : v29 = m 128 (40 * x0.toInt.toNat + y7.toInt.toNat) := ev29.trans ((K11 128 _ rfl).trans (congrArg (m 128) (by omega)))
        refine pv_if_eq (M := mX12_laysBlank) (tgt := 38) dX12_laysBlank_32 35 rfl (by decide) (fun c31 => ?_) (fun c31 => ?_)
        · have c31 := iv_eq (X := v29.toInt) (Y := 0) c31 rfl (by decide)
          refine pv_aload_n (M := mX12_laysBlank) 0 dX12_laysBlank_38 39 rfl rfl rfl ?_
          refine mv_get (M := mX12_laysBlank) (v := .ref 149) dX12_laysBlank_39 FX12 42 wd1215 (by decide) (tl123 hT) rfl rfl 42 rfl ?_
          refine pv_aload_n (M := mX12_laysBlank) 0 dX12_laysBlank_42 43 rfl rfl rfl ?_
          refine iv_get (M := mX12_laysBlank) (l1 := 0) (l2 := 40) dX12_laysBlank_43 FX12 40 wd1213 (by decide) (tl123 hT) rfl I10 rfl 46 rfl (fun v32 ev32 pv32 qv32 => ?_)
          have wv32 : v32.toInt = (m8 123 40).toInt := congrArg Int32.toInt ev32
          refine pv_aload_n (M := mX12_laysBlank) 0 dX12_laysBlank_46 47 rfl rfl rfl ?_
          refine mv_get (M := mX12_laysBlank) (v := .ref 125) dX12_laysBlank_47 FX12 6 wd1179 (by decide) (tl123 hT) rfl rfl 50 rfl ?_
          refine pv_bipush (M := mX12_laysBlank) (v := 40) dX12_laysBlank_50 52 rfl (by decide) ?_
          refine pv_iload_n (M := mX12_laysBlank) 1 dX12_laysBlank_52 53 rfl rfl rfl ?_
          refine iv_imul (M := mX12_laysBlank) (X := 40) (Y := x0.toInt) dX12_laysBlank_53 54 rfl (by decide) rfl (by omega) (by omega) (fun v33 ev33 => ?_)
          refine pv_iload_n (M := mX12_laysBlank) 3 dX12_laysBlank_54 55 rfl rfl rfl ?_
          refine iv_iadd (M := mX12_laysBlank) (X := v33.toInt) (Y := y7.toInt) dX12_laysBlank_55 56 rfl rfl rfl (by omega) (by omega) (fun v34 ev34 => ?_)
          refine iv_iald (M := mX12_laysBlank) (X := v34.toInt) (l1 := 0) (l2 := 25) dX12_laysBlank_56 (tl125 hT) rfl (by omega) (by omega) I10 (fun _ => rfl) 57 rfl (fun v35 ev35 pv35 qv35 => ?_)
          have k57 : v35 = m 125 (40 * x0.toInt.toNat + y7.toInt.toNat) := ev35.trans ((K11 125 _ rfl).trans (congrArg (m 125) (by omega)))
          refine iv_iast (M := mX12_laysBlank) (X := v32.toInt) (l1 := 0) (l2 := 25) dX12_laysBlank_57 (tl149 hT) rfl (by omega) (by omega) I10 (fun _ => rfl) (by omega) (by omega) 58 rfl (fun m37 e40 I38 => ?_)
          have K39 := K11.set e40 rfl
          have w41 : (m37 123 40).toInt = (m8 123 40).toInt := by rw [e40, up2_ne (by omega)]
          have k58 := (e40).trans (up2_ix (j := (m8 123 40).toInt.toNat) (by omega))
          refine pv_aload_n (M := mX12_laysBlank) 0 dX12_laysBlank_58 59 rfl rfl rfl ?_
          refine pv_aload_n (M := mX12_laysBlank) 0 dX12_laysBlank_59 60 rfl rfl rfl ?_
          refine iv_get (M := mX12_laysBlank) (l1 := 0) (l2 := 40) dX12_laysBlank_60 FX12 40 wd1213 (by decide) (tl123 hT) rfl I38 rfl 63 rfl (fun v43 ev43 pv43 qv43 => ?_)
          have wv43 : v43.toInt = (m37 123 40).toInt := congrArg Int32.toInt ev43
          refine pv_iconst (M := mX12_laysBlank) (v := 1) dX12_laysBlank_63 64 rfl (by decide) ?_
          refine iv_iadd (M := mX12_laysBlank) (X := v43.toInt) (Y := 1) dX12_laysBlank_64 65 rfl rfl (by decide) (by omega) (by omega) (fun v44 ev44 => ?_)
          refine iv_put (M := mX12_laysBlank) (l1 := 0) (l2 := 40) dX12_laysBlank_65 FX12 40 wd1213 (by decide) rfl (tl123 hT) rfl rfl rfl I38 rfl (by omega) (by omega) 68 rfl (fun m45 e48 I46 => ?_)
          have K47 := K39.set e48 rfl
          have w49 : (m45 123 40).toInt = v44.toInt := by rw [e48, up2_eq]
          refine iv_inc (M := mX12_laysBlank) (C := 1) dX12_laysBlank_68 71 rfl rfl (by decide) rfl rfl (by decide) (by omega) (by omega) (fun v50 ev50 => ?_)
          show PV _ _ _ _ _ _ _ 71 [.ref 123, .int x0, .int 0, .int v50] [] _
          refine pv_goto (M := mX12_laysBlank) (tgt := 7) dX12_laysBlank_71 (by decide) ?_
          have kb : RWL m m45 x0.toInt.toNat v50.toInt.toNat := by first | exact RWL_n kg (fun q => by have w := congrArg Int32.toInt (k32.trans q); rw [Int32.toInt_zero] at w; omega) (by omega) | exact RWL_y kg (k32.symm.trans (i_eq (by rw [Int32.toInt_zero]; omega))) (by omega) k58 rfl k57 e48 (by omega)
          exact ih14 v50 m45 n9 (by first | omega | assumption | exact (iv_rng _).2 | exact (iv_rng _).1 | decide) (by first | omega | assumption | exact (iv_rng _).2 | exact (iv_rng _).1 | decide) (by first | omega | assumption | (show (m45 123 40).toInt ≤ v50.toInt; omega) | decide) (by first | omega | assumption | (show v50.toInt ≤ (m 124 x0.toInt.toNat).toInt; omega) | decide) kb I46 K47 (by omega)
        · have c31 := iv_ne (X := v29.toInt) (Y := 0) c31 rfl (by decide)
          refine pv_goto (M := mX12_laysBlank) (tgt := 68) dX12_laysBlank_35 (by decide) ?_
          refine iv_inc (M := mX12_laysBlank) (C := 1) dX12_laysBlank_68 71 rfl rfl (by decide) rfl rfl (by decide) (by omega) (by omega) (fun v52 ev52 => ?_)
          show PV _ _ _ _ _ _ _ 71 [.ref 123, .int x0, .int 0, .int v52] [] _
          refine pv_goto (M := mX12_laysBlank) (tgt := 7) dX12_laysBlank_71 (by decide) ?_
          have kb : RWL m m8 x0.toInt.toNat v52.toInt.toNat := by first | exact RWL_n kg (fun q => by have w := congrArg Int32.toInt (k32.trans q); rw [Int32.toInt_zero] at w; omega) (by omega) | exact RWL_y kg (k32.symm.trans (i_eq (by rw [Int32.toInt_zero]; omega))) (by omega) k58 rfl k57 e5 (by omega)
          exact ih14 v52 m8 n9 (by first | omega | assumption | exact (iv_rng _).2 | exact (iv_rng _).1 | decide) (by first | omega | assumption | exact (iv_rng _).2 | exact (iv_rng _).1 | decide) (by first | omega | assumption | (show (m8 123 40).toInt ≤ v52.toInt; omega) | decide) (by first | omega | assumption | (show v52.toInt ≤ (m 124 x0.toInt.toNat).toInt; omega) | decide) kb I10 K11 (by omega)
  have z54 : (0 : Int32).toInt = 0 := by decide
  exact lp13 (((40 - 0) : Int).toNat + 1) 0 m2 n (by first | omega | assumption | exact (iv_rng _).2 | exact (iv_rng _).1 | decide) (by first | omega | assumption | exact (iv_rng _).2 | exact (iv_rng _).1 | decide) (by first | omega | assumption | (show (m2 123 40).toInt ≤ 0; omega) | decide) (by first | omega | assumption | (show 0 ≤ (m 124 x0.toInt.toNat).toInt; omega) | decide) (by (try dsimp only); rw [Int32.toInt_zero]; exact RWL_0 (by omega)) I3 K4 (by omega)

set_option maxHeartbeats 2000000 in
set_option maxRecDepth 20000 in
theorem s_X12_laysPrices_va (g : pv_G) {T : List mv_T} {m : Nat → Nat → Int32} {n : Nat → Nat → Int64} {r : Nat → Value} (hT : TX T) (I : IV BB m) (x0 : Int32) (hl0 : 0 ≤ x0.toInt) (hh0 : x0.toInt ≤ 7) (x1 : Int32) (t : Int → Int) (hp0 : (m 123 40).toInt ≤ nu m x0.toInt 0) (hp1 : LX m) (hp2 : LAWr m t (m 123 20).toInt.toNat) : PM g mX12_laysPrices yX12_laysPrices (sqV T BB (wl [(141, 141, none), (142, 142, none), (152, 152, none)]) r m (fun m' => (∀ p : Nat, (p : Int) < (m 123 40).toInt → (FFr m t x0.toInt.toNat p x1.toInt ∧ PRr m t x0.toInt.toNat p x1.toInt (m' 152 p)) ∨ (FBr m t x0.toInt.toNat p x1.toInt ∧ (m' 152 p).toInt = 1000000000)) ∧ ∀ a j, isR a j = true → m' a j = m a j)) 4 0 0 [.ref 123, .int x0, .int x1] (mk T m n r) := by
  have Kp : fr (wl [(141, 141, none), (142, 142, none), (152, 152, none)]) m m := fr.rf
  have kLX := hp1
  have z84 : 0 ≤ (m 123 40).toInt ∧ (m 123 40).toInt ≤ 40 := I 123 40
  refine PM.of 1 (lo := [.ref 123, .int x0, .int x1, pv_U]) rfl (by decide) rfl rfl (Nat.le_of_ble_eq_true rfl) ?_
  refine pv_iconst (M := mX12_laysPrices) (v := 0) dX12_laysPrices_0 1 rfl (by decide) ?_
  refine pv_istore_n (M := mX12_laysPrices) 3 (lo2 := [.ref 123, .int x0, .int x1, .int 0]) dX12_laysPrices_1 2 rfl rfl (by decide) rfl rfl ?_
  have lp7 : ∀ (fuel6 : Nat) (y1 : Int32) (m2 : Nat → Nat → Int32) (n3 : Nat → Nat → Int64), (0 ≤ y1.toInt) → (y1.toInt ≤ 40) → ((m2 123 40).toInt = (m 123 40).toInt) → (nu m2 x0.toInt 0 = nu m x0.toInt 0) → (y1.toInt ≤ (m 123 40).toInt) → (∀ a j, isR a j = true → m2 a j = m a j) → (∀ p : Nat, (p : Int) < y1.toInt → (FFr m t x0.toInt.toNat p x1.toInt ∧ PRr m t x0.toInt.toNat p x1.toInt (m2 152 p)) ∨ (FBr m t x0.toInt.toNat p x1.toInt ∧ (m2 152 p).toInt = 1000000000)) → (LX m2) → IV BB m2 → fr (wl [(141, 141, none), (142, 142, none), (152, 152, none)]) m m2 → ((40 - y1.toInt) : Int).toNat < fuel6 → PV none g mX12_laysPrices (sqV T BB (wl [(141, 141, none), (142, 142, none), (152, 152, none)]) r m (fun m' => (∀ p : Nat, (p : Int) < (m 123 40).toInt → (FFr m t x0.toInt.toNat p x1.toInt ∧ PRr m t x0.toInt.toNat p x1.toInt (m' 152 p)) ∨ (FBr m t x0.toInt.toNat p x1.toInt ∧ (m' 152 p).toInt = 1000000000)) ∧ ∀ a j, isR a j = true → m' a j = m a j)) 4 0 0 2 [.ref 123, .int x0, .int x1, .int y1] [] (mk T m2 n3 r) := by
    intro fuel6
    induction fuel6 with
    | zero => intro y1 m2 n3 b9 b10 b11 b12 b13 b14 b15 b16 I4 K5 z17; omega
    | succ fuel6 ih8 =>
      intro y1 m2 n3 b9 b10 b11 b12 b13 b14 b15 b16 I4 K5 z17
      have z18 : 0 ≤ (m2 123 40).toInt ∧ (m2 123 40).toInt ≤ 40 := I4 123 40
      have kLX := (show LX m2 by assumption)
      have kgR := (show ∀ a j, isR a j = true → m2 a j = m a j by assumption)
      have kgA := (show ∀ p : Nat, (p : Int) < y1.toInt → (FFr m t x0.toInt.toNat p x1.toInt ∧ PRr m t x0.toInt.toNat p x1.toInt (m2 152 p)) ∨ (FBr m t x0.toInt.toNat p x1.toInt ∧ (m2 152 p).toInt = 1000000000) by assumption)
      have kq125 : ∀ j, m2 125 j = m 125 j := fun j => K5 125 j rfl
      have kq1 : m2 123 1 = m 123 1 := K5 123 1 rfl
      refine pv_iload_n (M := mX12_laysPrices) 3 dX12_laysPrices_2 3 rfl rfl rfl ?_
      refine pv_aload_n (M := mX12_laysPrices) 0 dX12_laysPrices_3 4 rfl rfl rfl ?_
      refine iv_get (M := mX12_laysPrices) (l1 := 0) (l2 := 40) dX12_laysPrices_4 FX12 40 wd1213 (by decide) (tl123 hT) rfl I4 rfl 7 rfl (fun v23 ev23 pv23 qv23 => ?_)
      have wv23 : v23.toInt = (m2 123 40).toInt := congrArg Int32.toInt ev23
      refine pv_icmp_ge (M := mX12_laysPrices) (tgt := 45) dX12_laysPrices_7 10 rfl (by decide) (fun c24 => ?_) (fun c24 => ?_)
      · have c24 := iv_le (X := v23.toInt) (Y := y1.toInt) c24 rfl rfl
        exact pv_vret (M := mX12_laysPrices) dX12_laysPrices_45 rfl ⟨_, _, rfl, rfl, I4, K5, ⟨fun p hp => kgA p (by omega), kgR⟩⟩
      · have c24 := iv_nle (X := v23.toInt) (Y := y1.toInt) c24 rfl rfl
        refine pv_aload_n (M := mX12_laysPrices) 0 dX12_laysPrices_10 11 rfl rfl rfl ?_
        refine mv_get (M := mX12_laysPrices) (v := .ref 152) dX12_laysPrices_11 FX12 45 wd1218 (by decide) (tl123 hT) rfl rfl 14 rfl ?_
        refine pv_iload_n (M := mX12_laysPrices) 3 dX12_laysPrices_14 15 rfl rfl rfl ?_
        refine pv_aload_n (M := mX12_laysPrices) 0 dX12_laysPrices_15 16 rfl rfl rfl ?_
        refine pv_iload_n (M := mX12_laysPrices) 1 dX12_laysPrices_16 17 rfl rfl rfl ?_
        refine pv_iload_n (M := mX12_laysPrices) 3 dX12_laysPrices_17 18 rfl rfl rfl ?_
        refine pv_iload_n (M := mX12_laysPrices) 2 dX12_laysPrices_18 19 rfl rfl rfl ?_
        have k19 : LAWr m2 t (m2 123 20).toInt.toNat := by rw [show m2 123 20 = m 123 20 from kgR 123 20 rfl]; exact LAWr_eq hp2 (fun a j h1 h2 => kgR a j (isR_cr h1 h2))
        refine pv_callv (M := mX12_laysPrices) (as := [.int x0, .int y1, .int x1]) (st := [.int y1, .ref 152]) (kc2 := 0) (ks2 := 0) dX12_laysPrices_19 wd1522 YX12_mayStrike ⟨wd1524, wd82⟩ (mk_get (tl123 hT)) rfl rfl (s_X12_mayStrike_vz g hT I4 x0 (by omega) (by omega) y1 (by omega) (by omega) x1 t (by first | omega | assumption | exact (iv_rng _).2 | exact (iv_rng _).1 | decide) (by first | omega | assumption | exact (iv_rng _).2 | exact (iv_rng _).1 | decide) k19) rfl rfl (Nat.le_of_ble_eq_true rfl) (by decide) rfl rfl 22 rfl (fun rv h1 q26 => ?_)
        obtain ⟨m27, n28, v31, rfl, rfl, I29, K30, pv31, qv31, rv31⟩ := q26
        replace rv31 : (FCT (m27 142) (m2 128) (m2 125) (40 * x0.toInt.toNat) (40 * x0.toInt.toNat) (m2 124 x0.toInt.toNat).toInt.toNat y1.toInt x1.toInt (m2 123 1).toInt x0.toInt) ∧ ((v31.toInt = 1 ∧ ¬ FRB t (m2 123 20).toInt.toNat (frn m27)) ∨ (v31.toInt = 0 ∧ FRB t (m2 123 20).toInt.toNat (frn m27))) := rv31
        have K30c := K30
        have kLX : LX m27 := LX_eq kLX (K30c 123 20 rfl) (fun j => K30c 136 j rfl) (fun j => K30c 138 j rfl) (fun j => K30c 139 j rfl) (fun j => K30c 140 j rfl)
        have u32 : nu m27 x0.toInt 0 = nu m2 x0.toInt 0 := nu_eq (fun j => K30c 124 j rfl) (fun j => K30c 128 j rfl) _ _
        have w33 : (m27 123 40).toInt = (m2 123 40).toInt := congrArg Int32.toInt (K30 123 40 rfl)
        have K30 := K5.trans (K30.sub (wl_sub (by decide)))
        show PV _ _ _ _ _ _ _ 22 [.ref 123, .int x0, .int x1, .int y1] [.int v31, .int y1, .ref 152] _
        have k22 := rv31
        have k22f : FCr m x0.toInt.toNat y1.toInt.toNat x1.toInt (frn m27) := FCr_of k22.1 rfl (by omega) (fun j => kgR 128 j rfl) (fun j => kq125 j) (fun j => kgR 124 j rfl) (by omega) (congrArg Int32.toInt kq1)
        have k22v := k22.2
        rw [show (m2 123 20).toInt = (m 123 20).toInt from congrArg Int32.toInt (kgR 123 20 rfl)] at k22v
        have kR22 : ∀ a j, isR a j = true → m27 a j = m a j := fun a j q => (K30c a j (wl_nR (by decide) q)).trans (kgR a j q)
        have k22g : ∀ j, m27 152 j = m2 152 j := fun j => K30c 152 j rfl
        refine pv_if_eq (M := mX12_laysPrices) (tgt := 35) dX12_laysPrices_22 25 rfl (by decide) (fun c40 => ?_) (fun c40 => ?_)
        · have c40 := iv_eq (X := v31.toInt) (Y := 0) c40 rfl (by decide)
          refine pv_ldcw (M := mX12_laysPrices) (v := 1000000000) dX12_laysPrices_35 38 rfl wd1583 ?_
          refine iv_iast (M := mX12_laysPrices) (X := y1.toInt) (l1 := 0) (l2 := 1999999998) dX12_laysPrices_38 (tl152 hT) rfl (by omega) (by omega) I29 (fun _ => rfl) (by decide) (by decide) 39 rfl (fun m41 e44 I42 => ?_)
          have K43 := K30.set e44 rfl
          have kLX : LX m41 := LX_eq kLX (by rw [e44, up2_ne (by omega)]) (fun j => by rw [e44, up2_ne (by omega)]) (fun j => by rw [e44, up2_ne (by omega)]) (fun j => by rw [e44, up2_ne (by omega)]) (fun j => by rw [e44, up2_ne (by omega)])
          have u45 : nu m41 x0.toInt 0 = nu m27 x0.toInt 0 := nu_eq (st_off e44 (by decide)) (st_off e44 (by decide)) _ _
          have w46 : (m41 123 40).toInt = (m27 123 40).toInt := by rw [e44, up2_ne (by omega)]
          have k39 := (e44).trans (up2_ix (j := y1.toInt.toNat) (by omega))
          have k39a : (FFr m t x0.toInt.toNat y1.toInt.toNat x1.toInt ∧ PRr m t x0.toInt.toNat y1.toInt.toNat x1.toInt (m41 152 y1.toInt.toNat)) ∨ (FBr m t x0.toInt.toNat y1.toInt.toNat x1.toInt ∧ (m41 152 y1.toInt.toNat).toInt = 1000000000) := by rw [k39, up2_eq]; first | exact Or.inl ⟨⟨_, k22f, (k22v.resolve_right (fun q => by have q1 := q.1; omega)).2⟩, k32p⟩ | exact Or.inr ⟨⟨_, k22f, (k22v.resolve_left (fun q => by have q1 := q.1; omega)).2⟩, by decide⟩
          have k39o : ∀ j, j ≠ y1.toInt.toNat → m41 152 j = m2 152 j := fun j q => by rw [k39, up2_ne (by omega)]; exact k22g j
          have kR39 : ∀ a j, isR a j = true → m41 a j = m a j := fun a j q => by rw [k39, up2_ne (fun z => by have z1 := z.1; subst z1; exact absurd (q.symm.trans (show isR 152 _ = false from rfl)) (by decide))]; exact kR22 a j q
          refine iv_inc (M := mX12_laysPrices) (C := 1) dX12_laysPrices_39 42 rfl rfl (by decide) rfl rfl (by decide) (by omega) (by omega) (fun v51 ev51 => ?_)
          show PV _ _ _ _ _ _ _ 42 [.ref 123, .int x0, .int x1, .int v51] [] _
          refine pv_goto (M := mX12_laysPrices) (tgt := 2) dX12_laysPrices_42 (by decide) ?_
          have kbR := kR39
          have kbA : ∀ p : Nat, (p : Int) < v51.toInt → (FFr m t x0.toInt.toNat p x1.toInt ∧ PRr m t x0.toInt.toNat p x1.toInt (m41 152 p)) ∨ (FBr m t x0.toInt.toNat p x1.toInt ∧ (m41 152 p).toInt = 1000000000) := fun p hp => if z : (p : Int) = y1.toInt then (by rw [show p = (y1.toInt).toNat by omega]; exact k39a) else (by rw [k39o p (by omega)]; exact kgA p (by omega))
          exact ih8 v51 m41 n28 (by first | omega | assumption | exact (iv_rng _).2 | exact (iv_rng _).1 | decide) (by first | omega | assumption | exact (iv_rng _).2 | exact (iv_rng _).1 | decide) (by first | omega | assumption | (show (m41 123 40).toInt = (m 123 40).toInt; omega) | decide) (by first | omega | assumption | (show nu m41 x0.toInt 0 = nu m x0.toInt 0; omega) | decide) (by first | omega | assumption | (show v51.toInt ≤ (m 123 40).toInt; omega) | decide) kbR kbA kLX I42 K43 (by omega)
        · have c40 := iv_ne (X := v31.toInt) (Y := 0) c40 rfl (by decide)
          have kgR := kR22
          have kq125 : ∀ j, m27 125 j = m 125 j := fun j => K30 125 j rfl
          have kq1 : m27 123 1 = m 123 1 := K30 123 1 rfl
          refine pv_aload_n (M := mX12_laysPrices) 0 dX12_laysPrices_25 26 rfl rfl rfl ?_
          refine pv_iload_n (M := mX12_laysPrices) 1 dX12_laysPrices_26 27 rfl rfl rfl ?_
          refine pv_iload_n (M := mX12_laysPrices) 3 dX12_laysPrices_27 28 rfl rfl rfl ?_
          refine pv_iload_n (M := mX12_laysPrices) 2 dX12_laysPrices_28 29 rfl rfl rfl ?_
          have k29 : LAWr m27 t (m27 123 20).toInt.toNat := by rw [show m27 123 20 = m 123 20 from kgR 123 20 rfl]; exact LAWr_eq hp2 (fun a j h1 h2 => kgR a j (isR_cr h1 h2))
          refine pv_callv (M := mX12_laysPrices) (as := [.int x0, .int y1, .int x1]) (st := [.int y1, .ref 152]) (kc2 := 0) (ks2 := 0) dX12_laysPrices_29 wd1499 YX12_priceOf ⟨wd1501, wd77⟩ (mk_get (tl123 hT)) rfl rfl (s_X12_priceOf_vz g hT I29 x0 (by omega) (by omega) y1 (by omega) (by omega) x1 t (by first | omega | assumption | exact (iv_rng _).2 | exact (iv_rng _).1 | decide) (by first | omega | assumption | exact (iv_rng _).2 | exact (iv_rng _).1 | decide) k29) rfl rfl (Nat.le_of_ble_eq_true rfl) (by decide) rfl rfl 32 rfl (fun rv h1 q58 => ?_)
          obtain ⟨m59, n60, v63, rfl, rfl, I61, K62, pv63, qv63, rv63⟩ := q58
          replace rv63 : (FCT (m59 142) (m27 128) (m27 125) (40 * x0.toInt.toNat) (40 * x0.toInt.toNat) (m27 124 x0.toInt.toNat).toInt.toNat y1.toInt x1.toInt (m27 123 1).toInt x0.toInt) ∧ v63.toInt = prc t (frn m59) (m27 123 20).toInt.toNat 0 := rv63
          have K62c := K62
          have kLX : LX m59 := LX_eq kLX (K62c 123 20 rfl) (fun j => K62c 136 j rfl) (fun j => K62c 138 j rfl) (fun j => K62c 139 j rfl) (fun j => K62c 140 j rfl)
          have u64 : nu m59 x0.toInt 0 = nu m27 x0.toInt 0 := nu_eq (fun j => K62c 124 j rfl) (fun j => K62c 128 j rfl) _ _
          have w65 : (m59 123 40).toInt = (m27 123 40).toInt := congrArg Int32.toInt (K62 123 40 rfl)
          have K62 := K30.trans (K62.sub (wl_sub (by decide)))
          show PV _ _ _ _ _ _ _ 32 [.ref 123, .int x0, .int x1, .int y1] [.int v63, .int y1, .ref 152] _
          have k32 := rv63
          have k32p : PRr m t x0.toInt.toNat y1.toInt.toNat x1.toInt v63 := ⟨_, FCr_of k32.1 rfl (by omega) (fun j => kgR 128 j rfl) (fun j => kq125 j) (fun j => kgR 124 j rfl) (by omega) (congrArg Int32.toInt kq1), by rw [k32.2, show (m27 123 20).toInt = (m 123 20).toInt from congrArg Int32.toInt (kgR 123 20 rfl)]⟩
          have kR22 : ∀ a j, isR a j = true → m59 a j = m a j := fun a j q => (K62c a j (wl_nR (by decide) q)).trans (kgR a j q)
          have k22g : ∀ j, m59 152 j = m2 152 j := fun j => (K62c 152 j rfl).trans (k22g j)
          refine pv_goto (M := mX12_laysPrices) (tgt := 38) dX12_laysPrices_32 (by decide) ?_
          refine iv_iast (M := mX12_laysPrices) (X := y1.toInt) (l1 := 0) (l2 := 1999999998) dX12_laysPrices_38 (tl152 hT) rfl (by omega) (by omega) I61 (fun _ => rfl) (by omega) (by omega) 39 rfl (fun m70 e73 I71 => ?_)
          have K72 := K62.set e73 rfl
          have kLX : LX m70 := LX_eq kLX (by rw [e73, up2_ne (by omega)]) (fun j => by rw [e73, up2_ne (by omega)]) (fun j => by rw [e73, up2_ne (by omega)]) (fun j => by rw [e73, up2_ne (by omega)]) (fun j => by rw [e73, up2_ne (by omega)])
          have u74 : nu m70 x0.toInt 0 = nu m59 x0.toInt 0 := nu_eq (st_off e73 (by decide)) (st_off e73 (by decide)) _ _
          have w75 : (m70 123 40).toInt = (m59 123 40).toInt := by rw [e73, up2_ne (by omega)]
          have k39 := (e73).trans (up2_ix (j := y1.toInt.toNat) (by omega))
          have k39a : (FFr m t x0.toInt.toNat y1.toInt.toNat x1.toInt ∧ PRr m t x0.toInt.toNat y1.toInt.toNat x1.toInt (m70 152 y1.toInt.toNat)) ∨ (FBr m t x0.toInt.toNat y1.toInt.toNat x1.toInt ∧ (m70 152 y1.toInt.toNat).toInt = 1000000000) := by rw [k39, up2_eq]; first | exact Or.inl ⟨⟨_, k22f, (k22v.resolve_right (fun q => by have q1 := q.1; omega)).2⟩, k32p⟩ | exact Or.inr ⟨⟨_, k22f, (k22v.resolve_left (fun q => by have q1 := q.1; omega)).2⟩, by decide⟩
          have k39o : ∀ j, j ≠ y1.toInt.toNat → m70 152 j = m2 152 j := fun j q => by rw [k39, up2_ne (by omega)]; exact k22g j
          have kR39 : ∀ a j, isR a j = true → m70 a j = m a j := fun a j q => by rw [k39, up2_ne (fun z => by have z1 := z.1; subst z1; exact absurd (q.symm.trans (show isR 152 _ = false from rfl)) (by decide))]; exact kR22 a j q
          refine iv_inc (M := mX12_laysPrices) (C := 1) dX12_laysPrices_39 42 rfl rfl (by decide) rfl rfl (by decide) (by omega) (by omega) (fun v80 ev80 => ?_)
          show PV _ _ _ _ _ _ _ 42 [.ref 123, .int x0, .int x1, .int v80] [] _
          refine pv_goto (M := mX12_laysPrices) (tgt := 2) dX12_laysPrices_42 (by decide) ?_
          have kbR := kR39
          have kbA : ∀ p : Nat, (p : Int) < v80.toInt → (FFr m t x0.toInt.toNat p x1.toInt ∧ PRr m t x0.toInt.toNat p x1.toInt (m70 152 p)) ∨ (FBr m t x0.toInt.toNat p x1.toInt ∧ (m70 152 p).toInt = 1000000000) := fun p hp => if z : (p : Int) = y1.toInt then (by rw [show p = (y1.toInt).toNat by omega]; exact k39a) else (by rw [k39o p (by omega)]; exact kgA p (by omega))
          exact ih8 v80 m70 n60 (by first | omega | assumption | exact (iv_rng _).2 | exact (iv_rng _).1 | decide) (by first | omega | assumption | exact (iv_rng _).2 | exact (iv_rng _).1 | decide) (by first | omega | assumption | (show (m70 123 40).toInt = (m 123 40).toInt; omega) | decide) (by first | omega | assumption | (show nu m70 x0.toInt 0 = nu m x0.toInt 0; omega) | decide) (by first | omega | assumption | (show v80.toInt ≤ (m 123 40).toInt; omega) | decide) kbR kbA kLX I71 K72 (by omega)
  have z83 : (0 : Int32).toInt = 0 := by decide
  exact lp7 (((40 - 0) : Int).toNat + 1) 0 m n (by first | omega | assumption | exact (iv_rng _).2 | exact (iv_rng _).1 | decide) (by first | omega | assumption | exact (iv_rng _).2 | exact (iv_rng _).1 | decide) (by first | omega | assumption | (show (m 123 40).toInt = (m 123 40).toInt; omega) | decide) (by first | omega | assumption | (show nu m x0.toInt 0 = nu m x0.toInt 0; omega) | decide) (by first | omega | assumption | (show 0 ≤ (m 123 40).toInt; omega) | decide) (fun _ _ _ => rfl) (fun p hp => by rw [Int32.toInt_zero] at hp; omega) kLX I Kp (by omega)

set_option maxHeartbeats 2000000 in
set_option maxRecDepth 20000 in
theorem s_X12_sum_va (g : pv_G) {T : List mv_T} {m : Nat → Nat → Int32} {n : Nat → Nat → Int64} {r : Nat → Value} (hT : TX T) (I : IV BB m) (x0 : Int32) (hl0 : 0 ≤ x0.toInt) (hh0 : x0.toInt ≤ 1999999998) (x1 : Int32) (hl1 : 0 ≤ x1.toInt) (hh1 : x1.toInt ≤ 1999999998) : PM g mX12_sum yX12_sum (sqP (mk T m n r) 0 1999999998 (fun v => ((1000000000 ≤ x0.toInt ∨ 1000000000 ≤ x1.toInt) ∧ v.toInt = 1000000000) ∨ (x0.toInt < 1000000000 ∧ x1.toInt < 1000000000 ∧ v.toInt = x0.toInt + x1.toInt))) 1 0 0 [.int x0, .int x1] (mk T m n r) := by
  have Kp : fr (wl []) m m := fr.rf
  refine PM.of 0 (lo := [.int x0, .int x1]) rfl (by decide) rfl rfl (Nat.le_of_ble_eq_true rfl) ?_
  refine pv_iload_n (M := mX12_sum) 0 dX12_sum_0 1 rfl rfl rfl ?_
  refine pv_ldcw (M := mX12_sum) (v := 1000000000) dX12_sum_1 4 rfl wd1583 ?_
  refine pv_icmp_ge (M := mX12_sum) (tgt := 14) dX12_sum_4 7 rfl (by decide) (fun c1 => ?_) (fun c1 => ?_)
  · have c1 := iv_le (X := 1000000000) (Y := x0.toInt) c1 (by decide) rfl
    refine pv_ldcw (M := mX12_sum) (v := 1000000000) dX12_sum_14 17 rfl wd1583 ?_
    refine pv_goto (M := mX12_sum) (tgt := 23) dX12_sum_17 (by decide) ?_
    have z2 : (1000000000 : Int32).toInt = 1000000000 := by decide
    exact pv_iret (M := mX12_sum) dX12_sum_23 rfl rfl ⟨_, rfl, rfl, by decide, by decide, (by (try dsimp only); first | exact Or.inr ⟨by omega, by omega, by omega⟩ | exact Or.inl ⟨by omega, by decide⟩)⟩
  · have c1 := iv_nle (X := 1000000000) (Y := x0.toInt) c1 (by decide) rfl
    refine pv_iload_n (M := mX12_sum) 1 dX12_sum_7 8 rfl rfl rfl ?_
    refine pv_ldcw (M := mX12_sum) (v := 1000000000) dX12_sum_8 11 rfl wd1583 ?_
    refine pv_icmp_lt (M := mX12_sum) (tgt := 20) dX12_sum_11 14 rfl (by decide) (fun c3 => ?_) (fun c3 => ?_)
    · have c3 := iv_lt (X := x1.toInt) (Y := 1000000000) c3 rfl (by decide)
      refine pv_iload_n (M := mX12_sum) 0 dX12_sum_20 21 rfl rfl rfl ?_
      refine pv_iload_n (M := mX12_sum) 1 dX12_sum_21 22 rfl rfl rfl ?_
      refine iv_iadd (M := mX12_sum) (X := x0.toInt) (Y := x1.toInt) dX12_sum_22 23 rfl rfl rfl (by omega) (by omega) (fun v4 ev4 => ?_)
      exact pv_iret (M := mX12_sum) dX12_sum_23 rfl rfl ⟨_, rfl, rfl, by omega, by omega, (by (try dsimp only); first | exact Or.inr ⟨by omega, by omega, by omega⟩ | exact Or.inl ⟨by omega, by decide⟩)⟩
    · have c3 := iv_nlt (X := x1.toInt) (Y := 1000000000) c3 rfl (by decide)
      refine pv_ldcw (M := mX12_sum) (v := 1000000000) dX12_sum_14 17 rfl wd1583 ?_
      refine pv_goto (M := mX12_sum) (tgt := 23) dX12_sum_17 (by decide) ?_
      have z5 : (1000000000 : Int32).toInt = 1000000000 := by decide
      exact pv_iret (M := mX12_sum) dX12_sum_23 rfl rfl ⟨_, rfl, rfl, by decide, by decide, (by (try dsimp only); first | exact Or.inr ⟨by omega, by omega, by omega⟩ | exact Or.inl ⟨by omega, by decide⟩)⟩

set_option maxHeartbeats 2000000 in
set_option maxRecDepth 20000 in
theorem s_X12_laysCheap_va (g : pv_G) {T : List mv_T} {m : Nat → Nat → Int32} {n : Nat → Nat → Int64} {r : Nat → Value} (hT : TX T) (I : IV BB m) (hp0 : GBr m (m 123 40).toInt.toNat) : PM g mX12_laysCheap yX12_laysCheap (sqV T BB (wl [(153, 153, none)]) r m (fun m' => ∀ p j, p ≤ (m 123 40).toInt.toNat → j ≤ (m 123 41).toInt.toNat → (m' 153 (17 * p + j)).toInt = enc 1000000000 (ctv (m 149) (m 150) (cRl m) (m 123 40).toInt.toNat (m 123 41).toInt.toNat ((m 123 40).toInt.toNat - p) j))) 2 0 0 [.ref 123] (mk T m n r) := by
  have Kp : fr (wl [(153, 153, none)]) m m := fr.rf
  have z291 : 0 ≤ (m 123 40).toInt ∧ (m 123 40).toInt ≤ 40 := I 123 40
  have z292 : 0 ≤ (m 123 41).toInt ∧ (m 123 41).toInt ≤ 16 := I 123 41
  refine PM.of 3 (lo := [.ref 123, pv_U, pv_U, pv_U]) rfl (by decide) rfl rfl (Nat.le_of_ble_eq_true rfl) ?_
  have kn0 : 0 ≤ (m 123 40).toInt ∧ (m 123 40).toInt ≤ 40 := I 123 40
  have kn1 : 0 ≤ (m 123 41).toInt ∧ (m 123 41).toInt ≤ 16 := I 123 41
  have kCB := CB_r hp0
  refine pv_aload_n (M := mX12_laysCheap) 0 dX12_laysCheap_0 1 rfl rfl rfl ?_
  refine iv_get (M := mX12_laysCheap) (l1 := 0) (l2 := 40) dX12_laysCheap_1 FX12 40 wd1213 (by decide) (tl123 hT) rfl I rfl 4 rfl (fun v4 ev4 pv4 qv4 => ?_)
  have wv4 : v4.toInt = (m 123 40).toInt := congrArg Int32.toInt ev4
  refine pv_istore_n (M := mX12_laysCheap) 1 (lo2 := [.ref 123, .int v4, pv_U, pv_U]) dX12_laysCheap_4 5 rfl rfl (by decide) rfl rfl ?_
  have lp11 : ∀ (fuel10 : Nat) (y5 : Int32) (m6 : Nat → Nat → Int32) (n7 : Nat → Nat → Int64), (-1 ≤ y5.toInt) → (y5.toInt ≤ 40) → (y5.toInt ≤ (m 123 40).toInt) → (TRt m6 (m 149) (m 150) (cRl m) (m 123 40).toInt.toNat (m 123 41).toInt.toNat y5.toInt (m 123 41).toInt) → IV BB m6 → fr (wl [(153, 153, none)]) m m6 → ((y5.toInt + 1) : Int).toNat < fuel10 → PV none g mX12_laysCheap (sqV T BB (wl [(153, 153, none)]) r m (fun m' => ∀ p j, p ≤ (m 123 40).toInt.toNat → j ≤ (m 123 41).toInt.toNat → (m' 153 (17 * p + j)).toInt = enc 1000000000 (ctv (m 149) (m 150) (cRl m) (m 123 40).toInt.toNat (m 123 41).toInt.toNat ((m 123 40).toInt.toNat - p) j))) 2 0 0 5 [.ref 123, .int y5, pv_U, pv_U] [] (mk T m6 n7 r) := by
    intro fuel10
    induction fuel10 with
    | zero => intro y5 m6 n7 b13 b14 b15 b16 I8 K9 z17; omega
    | succ fuel10 ih12 =>
      intro y5 m6 n7 b13 b14 b15 b16 I8 K9 z17
      have z18 : 0 ≤ (m6 123 40).toInt ∧ (m6 123 40).toInt ≤ 40 := I8 123 40
      have z19 : 0 ≤ (m6 123 41).toInt ∧ (m6 123 41).toInt ≤ 16 := I8 123 41
      have kg5 := (show TRt m6 (m 149) (m 150) (cRl m) (m 123 40).toInt.toNat (m 123 41).toInt.toNat y5.toInt (m 123 41).toInt by assumption)
      have ks0 : (m6 123 40).toInt = (m 123 40).toInt := congrArg Int32.toInt (K9 123 40 rfl)
      have ks1 : (m6 123 41).toInt = (m 123 41).toInt := congrArg Int32.toInt (K9 123 41 rfl)
      refine pv_iload_n (M := mX12_laysCheap) 1 dX12_laysCheap_5 6 rfl rfl rfl ?_
      refine pv_if_lt (M := mX12_laysCheap) (tgt := 157) dX12_laysCheap_6 9 rfl (by decide) (fun c23 => ?_) (fun c23 => ?_)
      · have c23 := iv_lt (X := y5.toInt) (Y := 0) c23 rfl (by decide)
        exact pv_vret (M := mX12_laysCheap) dX12_laysCheap_157 rfl ⟨_, _, rfl, rfl, I8, K9, (fun p j h1 h2 => kg5 p j h1 h2 (by omega))⟩
      · have c23 := iv_nlt (X := y5.toInt) (Y := 0) c23 rfl (by decide)
        refine pv_aload_n (M := mX12_laysCheap) 0 dX12_laysCheap_9 10 rfl rfl rfl ?_
        refine iv_get (M := mX12_laysCheap) (l1 := 0) (l2 := 16) dX12_laysCheap_10 FX12 41 wd1214 (by decide) (tl123 hT) rfl I8 rfl 13 rfl (fun v24 ev24 pv24 qv24 => ?_)
        have wv24 : v24.toInt = (m6 123 41).toInt := congrArg Int32.toInt ev24
        refine pv_istore_n (M := mX12_laysCheap) 2 (lo2 := [.ref 123, .int y5, .int v24, pv_U]) dX12_laysCheap_13 14 rfl rfl (by decide) rfl rfl ?_
        have lp31 : ∀ (fuel30 : Nat) (y25 : Int32) (m26 : Nat → Nat → Int32) (n27 : Nat → Nat → Int64), (-1 ≤ y25.toInt) → (y25.toInt ≤ 16) → (y5.toInt ≤ (m 123 40).toInt) → (y25.toInt ≤ (m 123 41).toInt) → (TRt m26 (m 149) (m 150) (cRl m) (m 123 40).toInt.toNat (m 123 41).toInt.toNat y5.toInt y25.toInt) → IV BB m26 → fr (wl [(153, 153, none)]) m m26 → ((y25.toInt + 1) : Int).toNat < fuel30 → PV none g mX12_laysCheap (sqV T BB (wl [(153, 153, none)]) r m (fun m' => ∀ p j, p ≤ (m 123 40).toInt.toNat → j ≤ (m 123 41).toInt.toNat → (m' 153 (17 * p + j)).toInt = enc 1000000000 (ctv (m 149) (m 150) (cRl m) (m 123 40).toInt.toNat (m 123 41).toInt.toNat ((m 123 40).toInt.toNat - p) j))) 2 0 0 14 [.ref 123, .int y5, .int y25, pv_U] [] (mk T m26 n27 r) := by
          intro fuel30
          induction fuel30 with
          | zero => intro y25 m26 n27 b33 b34 b35 b36 b37 I28 K29 z38; omega
          | succ fuel30 ih32 =>
            intro y25 m26 n27 b33 b34 b35 b36 b37 I28 K29 z38
            have z39 : 0 ≤ (m26 123 40).toInt ∧ (m26 123 40).toInt ≤ 40 := I28 123 40
            have z40 : 0 ≤ (m26 123 41).toInt ∧ (m26 123 41).toInt ≤ 16 := I28 123 41
            have kg14 := (show TRt m26 (m 149) (m 150) (cRl m) (m 123 40).toInt.toNat (m 123 41).toInt.toNat y5.toInt y25.toInt by assumption)
            have ks0 : (m26 123 40).toInt = (m 123 40).toInt := congrArg Int32.toInt (K29 123 40 rfl)
            have ks1 : (m26 123 41).toInt = (m 123 41).toInt := congrArg Int32.toInt (K29 123 41 rfl)
            refine pv_iload_n (M := mX12_laysCheap) 2 dX12_laysCheap_14 15 rfl rfl rfl ?_
            refine pv_if_lt (M := mX12_laysCheap) (tgt := 151) dX12_laysCheap_15 18 rfl (by decide) (fun c44 => ?_) (fun c44 => ?_)
            · have c44 := iv_lt (X := y25.toInt) (Y := 0) c44 rfl (by decide)
              have k151 := TRt_n kg14 (by omega) (K2 := y5.toInt - 1) rfl
              refine iv_inc (M := mX12_laysCheap) (C := (-1)) dX12_laysCheap_151 154 rfl rfl (by decide) rfl rfl (by decide) (by omega) (by omega) (fun v46 ev46 => ?_)
              show PV _ _ _ _ _ _ _ 154 [.ref 123, .int v46, .int y25, pv_U] [] _
              refine pv_goto (M := mX12_laysCheap) (tgt := 5) dX12_laysCheap_154 (by decide) ?_
              refine pv_fg (lo2 := [.ref 123, .int v46, pv_U, pv_U]) ⟨Or.inr rfl, ⟨Or.inr rfl, ⟨Or.inl rfl, ⟨Or.inl rfl, trivial⟩⟩⟩⟩ ?_
              have kb5 : TRt m26 (m 149) (m 150) (cRl m) (m 123 40).toInt.toNat (m 123 41).toInt.toNat v46.toInt (m 123 41).toInt := by have q := k151; rw [show y5.toInt - 1 = v46.toInt by omega, show (((m 123 41).toInt.toNat : Nat) : Int) = (m 123 41).toInt by omega] at q; exact q
              exact ih12 v46 m26 n27 (by first | omega | assumption | exact (iv_rng _).2 | exact (iv_rng _).1 | decide) (by first | omega | assumption | exact (iv_rng _).2 | exact (iv_rng _).1 | decide) (by first | omega | assumption | (show v46.toInt ≤ (m 123 40).toInt; omega) | decide) kb5 I28 K29 (by omega)
            · have c44 := iv_nlt (X := y25.toInt) (Y := 0) c44 rfl (by decide)
              refine pv_iload_n (M := mX12_laysCheap) 1 dX12_laysCheap_18 19 rfl rfl rfl ?_
              refine pv_aload_n (M := mX12_laysCheap) 0 dX12_laysCheap_19 20 rfl rfl rfl ?_
              refine iv_get (M := mX12_laysCheap) (l1 := 0) (l2 := 40) dX12_laysCheap_20 FX12 40 wd1213 (by decide) (tl123 hT) rfl I28 rfl 23 rfl (fun v48 ev48 pv48 qv48 => ?_)
              have wv48 : v48.toInt = (m26 123 40).toInt := congrArg Int32.toInt ev48
              refine pv_icmp_ne (M := mX12_laysCheap) (tgt := 44) dX12_laysCheap_23 26 rfl (by decide) (fun c49 => ?_) (fun c49 => ?_)
              · have c49 := iv_ne (X := y5.toInt) (Y := v48.toInt) c49 rfl rfl
                refine pv_aload_n (M := mX12_laysCheap) 0 dX12_laysCheap_44 45 rfl rfl rfl ?_
                refine mv_get (M := mX12_laysCheap) (v := .ref 152) dX12_laysCheap_45 FX12 45 wd1218 (by decide) (tl123 hT) rfl rfl 48 rfl ?_
                refine pv_iload_n (M := mX12_laysCheap) 1 dX12_laysCheap_48 49 rfl rfl rfl ?_
                refine iv_iald (M := mX12_laysCheap) (X := y5.toInt) (l1 := 0) (l2 := 1999999998) dX12_laysCheap_49 (tl152 hT) rfl (by omega) (by omega) I28 (fun _ => rfl) 50 rfl (fun v50 ev50 pv50 qv50 => ?_)
                refine pv_aload_n (M := mX12_laysCheap) 0 dX12_laysCheap_50 51 rfl rfl rfl ?_
                refine mv_get (M := mX12_laysCheap) (v := .ref 153) dX12_laysCheap_51 FX12 46 wd1219 (by decide) (tl123 hT) rfl rfl 54 rfl ?_
                refine pv_bipush (M := mX12_laysCheap) (v := 17) dX12_laysCheap_54 56 rfl (by decide) ?_
                refine pv_iload_n (M := mX12_laysCheap) 1 dX12_laysCheap_56 57 rfl rfl rfl ?_
                refine pv_iconst (M := mX12_laysCheap) (v := 1) dX12_laysCheap_57 58 rfl (by decide) ?_
                refine iv_iadd (M := mX12_laysCheap) (X := y5.toInt) (Y := 1) dX12_laysCheap_58 59 rfl rfl (by decide) (by omega) (by omega) (fun v51 ev51 => ?_)
                refine iv_imul (M := mX12_laysCheap) (X := 17) (Y := v51.toInt) dX12_laysCheap_59 60 rfl (by decide) rfl (by omega) (by omega) (fun v52 ev52 => ?_)
                refine pv_iload_n (M := mX12_laysCheap) 2 dX12_laysCheap_60 61 rfl rfl rfl ?_
                refine iv_iadd (M := mX12_laysCheap) (X := v52.toInt) (Y := y25.toInt) dX12_laysCheap_61 62 rfl rfl rfl (by omega) (by omega) (fun v53 ev53 => ?_)
                refine iv_iald (M := mX12_laysCheap) (X := v53.toInt) (l1 := 0) (l2 := 1999999998) dX12_laysCheap_62 (tl153 hT) rfl (by omega) (by omega) I28 (fun _ => rfl) 63 rfl (fun v54 ev54 pv54 qv54 => ?_)
                have k63a : v50.toInt = enc 1000000000 (cRl m y5.toInt.toNat) := by rw [ev50, show m26 152 = m 152 from funext fun i => K29 152 i rfl]; exact enc_cRl hp0 (by omega)
                have k63b : v54.toInt = enc 1000000000 (ctv (m 149) (m 150) (cRl m) (m 123 40).toInt.toNat (m 123 41).toInt.toNat ((m 123 40).toInt.toNat - (y5.toInt.toNat + 1)) y25.toInt.toNat) := by rw [ev54]; have q := kg14 (y5.toInt.toNat + 1) y25.toInt.toNat (by omega) (by omega) (by omega); rw [← q]; congr 2; omega
                refine pv_calls (M := mX12_laysCheap) (as := [.int v50, .int v54]) (st := []) (kc2 := 0) (ks2 := 0) dX12_laysCheap_63 wd1588 YX12_sum wd1589 (s_X12_sum_va g hT I28 v50 (by omega) (by omega) v54 (by omega) (by omega)) rfl rfl (Nat.le_of_ble_eq_true rfl) (by decide) rfl rfl 66 rfl (fun rv h1 q57 => ?_)
                obtain ⟨v58, rfl, rfl, pv58, qv58, rv58⟩ := q57
                replace rv58 : ((1000000000 ≤ v50.toInt ∨ 1000000000 ≤ v54.toInt) ∧ v58.toInt = 1000000000) ∨ (v50.toInt < 1000000000 ∧ v54.toInt < 1000000000 ∧ v58.toInt = v50.toInt + v54.toInt) := rv58
                show PV _ _ _ _ _ _ _ 66 [.ref 123, .int y5, .int y25, pv_U] [.int v58] _
                try have k66 := enc_sum k63a k63b (fun w z => kCB _ (by omega) w z) (fun w z => by have y := ctv_b kCB _ (by omega) _ w z; omega) rv58
                try have k66b := enc_le k66 (fun w z => by obtain ⟨a, b, z1, z2, z3⟩ := plO_some z; have y1 := ctv_b kCB _ (by omega) _ b z2; have y2 := kCB _ (by omega) a z1; omega)
                try have k66z : v58.toInt = enc 1000000000 (if y25.toInt.toNat = (m 123 41).toInt.toNat then some 0 else none) := by first | (rw [if_pos (by omega)]; rfl) | (rw [if_neg (by omega)]; rfl)
                refine pv_istore_n (M := mX12_laysCheap) 3 (lo2 := [.ref 123, .int y5, .int y25, .int v58]) dX12_laysCheap_66 67 rfl rfl (by decide) rfl rfl ?_
                refine pv_iload_n (M := mX12_laysCheap) 1 dX12_laysCheap_67 68 rfl rfl rfl ?_
                refine pv_aload_n (M := mX12_laysCheap) 0 dX12_laysCheap_68 69 rfl rfl rfl ?_
                refine iv_get (M := mX12_laysCheap) (l1 := 0) (l2 := 40) dX12_laysCheap_69 FX12 40 wd1213 (by decide) (tl123 hT) rfl I28 rfl 72 rfl (fun v62 ev62 pv62 qv62 => ?_)
                have wv62 : v62.toInt = (m26 123 40).toInt := congrArg Int32.toInt ev62
                refine pv_icmp_ge (M := mX12_laysCheap) (tgt := 133) dX12_laysCheap_72 75 rfl (by decide) (fun c63 => ?_) (fun c63 => ?_)
                · have c63 := iv_le (X := v62.toInt) (Y := y5.toInt) c63 rfl rfl
                  have kV : (v58).toInt = enc 1000000000 (ctv (m 149) (m 150) (cRl m) (m 123 40).toInt.toNat (m 123 41).toInt.toNat ((m 123 40).toInt.toNat - y5.toInt.toNat) y25.toInt.toNat) := by first | (exfalso; omega) | (rw [show (m 123 40).toInt.toNat - y5.toInt.toNat = 0 by omega]; exact k66z) | (rw [show (m 123 40).toInt.toNat - y5.toInt.toNat = ((m 123 40).toInt.toNat - (y5.toInt.toNat + 1)) + 1 by omega]; refine enc_minr (x := if y25.toInt.toNat < (m 123 41).toInt.toNat ∧ m 149 ((m 123 40).toInt.toNat - (((m 123 40).toInt.toNat - (y5.toInt.toNat + 1)) + 1)) = m 150 y25.toInt.toNat then ctv (m 149) (m 150) (cRl m) (m 123 40).toInt.toNat (m 123 41).toInt.toNat ((m 123 40).toInt.toNat - (y5.toInt.toNat + 1)) (y25.toInt.toNat + 1) else none) (y := plO (cRl m ((m 123 40).toInt.toNat - (((m 123 40).toInt.toNat - (y5.toInt.toNat + 1)) + 1))) (ctv (m 149) (m 150) (cRl m) (m 123 40).toInt.toNat (m 123 41).toInt.toNat ((m 123 40).toInt.toNat - (y5.toInt.toNat + 1)) y25.toInt.toNat)) rfl (b := enc 1000000000 (plO (cRl m y5.toInt.toNat) (ctv (m 149) (m 150) (cRl m) (m 123 40).toInt.toNat (m 123 41).toInt.toNat ((m 123 40).toInt.toNat - (y5.toInt.toNat + 1)) y25.toInt.toNat))) (by rw [show (m 123 40).toInt.toNat - (((m 123 40).toInt.toNat - (y5.toInt.toNat + 1)) + 1) = y5.toInt.toNat by omega]) (fun w z => by split at z; (have y := ctv_b kCB _ (by omega) _ w z; omega); (cases z)) (fun w z => by obtain ⟨a, b, z1, z2, z3⟩ := plO_some z; have y1 := ctv_b kCB _ (by omega) _ b z2; have y2 := kCB _ (by omega) a z1; omega) ?_; rw [show (m 123 40).toInt.toNat - (((m 123 40).toInt.toNat - (y5.toInt.toNat + 1)) + 1) = y5.toInt.toNat by omega, ← k66]; first | (rw [if_pos ⟨by omega, by rw [← k89, ← k95]; exact i_eq (by omega)⟩, ← k113]; omega) | (rw [if_neg (fun q => by have q1 := q.1; omega)]; exact Or.inr ⟨by omega, by show _ ≤ (1000000000 : Int); omega⟩) | (rw [if_neg (fun q => by have q2 := congrArg Int32.toInt q.2; rw [← k89, ← k95] at q2; omega)]; exact Or.inr ⟨by omega, by show _ ≤ (1000000000 : Int); omega⟩))
                  refine pv_aload_n (M := mX12_laysCheap) 0 dX12_laysCheap_133 134 rfl rfl rfl ?_
                  refine mv_get (M := mX12_laysCheap) (v := .ref 153) dX12_laysCheap_134 FX12 46 wd1219 (by decide) (tl123 hT) rfl rfl 137 rfl ?_
                  refine pv_bipush (M := mX12_laysCheap) (v := 17) dX12_laysCheap_137 139 rfl (by decide) ?_
                  refine pv_iload_n (M := mX12_laysCheap) 1 dX12_laysCheap_139 140 rfl rfl rfl ?_
                  refine iv_imul (M := mX12_laysCheap) (X := 17) (Y := y5.toInt) dX12_laysCheap_140 141 rfl (by decide) rfl (by omega) (by omega) (fun v65 ev65 => ?_)
                  refine pv_iload_n (M := mX12_laysCheap) 2 dX12_laysCheap_141 142 rfl rfl rfl ?_
                  refine iv_iadd (M := mX12_laysCheap) (X := v65.toInt) (Y := y25.toInt) dX12_laysCheap_142 143 rfl rfl rfl (by omega) (by omega) (fun v66 ev66 => ?_)
                  refine pv_iload_n (M := mX12_laysCheap) 3 dX12_laysCheap_143 144 rfl rfl rfl ?_
                  refine iv_iast (M := mX12_laysCheap) (X := v66.toInt) (l1 := 0) (l2 := 1999999998) dX12_laysCheap_144 (tl153 hT) rfl (by omega) (by omega) I28 (fun _ => rfl) (by omega) (by omega) 145 rfl (fun m67 e70 I68 => ?_)
                  have K69 := K29.set e70 rfl
                  have w71 : (m67 123 40).toInt = (m26 123 40).toInt := by rw [e70, up2_ne (by omega)]
                  have w72 : (m67 123 41).toInt = (m26 123 41).toInt := by rw [e70, up2_ne (by omega)]
                  refine iv_inc (M := mX12_laysCheap) (C := (-1)) dX12_laysCheap_145 148 rfl rfl (by decide) rfl rfl (by decide) (by omega) (by omega) (fun v73 ev73 => ?_)
                  show PV _ _ _ _ _ _ _ 148 [.ref 123, .int y5, .int v73, .int v58] [] _
                  refine pv_goto (M := mX12_laysCheap) (tgt := 14) dX12_laysCheap_148 (by decide) ?_
                  refine pv_fg (lo2 := [.ref 123, .int y5, .int v73, pv_U]) ⟨Or.inr rfl, ⟨Or.inr rfl, ⟨Or.inr rfl, ⟨Or.inl rfl, trivial⟩⟩⟩⟩ ?_
                  have kb14 : TRt m67 (m 149) (m 150) (cRl m) (m 123 40).toInt.toNat (m 123 41).toInt.toNat y5.toInt v73.toInt := TRt_s kg14 (by omega) (by omega) (by omega) (by omega) e70 (by omega) kV (by omega)
                  exact ih32 v73 m67 n27 (by first | omega | assumption | exact (iv_rng _).2 | exact (iv_rng _).1 | decide) (by first | omega | assumption | exact (iv_rng _).2 | exact (iv_rng _).1 | decide) (by first | omega | assumption | (show y5.toInt ≤ (m 123 40).toInt; omega) | decide) (by first | omega | assumption | (show v73.toInt ≤ (m 123 41).toInt; omega) | decide) kb14 I68 K69 (by omega)
                · have c63 := iv_nle (X := v62.toInt) (Y := y5.toInt) c63 rfl rfl
                  refine pv_iload_n (M := mX12_laysCheap) 2 dX12_laysCheap_75 76 rfl rfl rfl ?_
                  refine pv_aload_n (M := mX12_laysCheap) 0 dX12_laysCheap_76 77 rfl rfl rfl ?_
                  refine iv_get (M := mX12_laysCheap) (l1 := 0) (l2 := 16) dX12_laysCheap_77 FX12 41 wd1214 (by decide) (tl123 hT) rfl I28 rfl 80 rfl (fun v75 ev75 pv75 qv75 => ?_)
                  have wv75 : v75.toInt = (m26 123 41).toInt := congrArg Int32.toInt ev75
                  refine pv_icmp_ge (M := mX12_laysCheap) (tgt := 133) dX12_laysCheap_80 83 rfl (by decide) (fun c76 => ?_) (fun c76 => ?_)
                  · have c76 := iv_le (X := v75.toInt) (Y := y25.toInt) c76 rfl rfl
                    have kV : (v58).toInt = enc 1000000000 (ctv (m 149) (m 150) (cRl m) (m 123 40).toInt.toNat (m 123 41).toInt.toNat ((m 123 40).toInt.toNat - y5.toInt.toNat) y25.toInt.toNat) := by first | (exfalso; omega) | (rw [show (m 123 40).toInt.toNat - y5.toInt.toNat = 0 by omega]; exact k66z) | (rw [show (m 123 40).toInt.toNat - y5.toInt.toNat = ((m 123 40).toInt.toNat - (y5.toInt.toNat + 1)) + 1 by omega]; refine enc_minr (x := if y25.toInt.toNat < (m 123 41).toInt.toNat ∧ m 149 ((m 123 40).toInt.toNat - (((m 123 40).toInt.toNat - (y5.toInt.toNat + 1)) + 1)) = m 150 y25.toInt.toNat then ctv (m 149) (m 150) (cRl m) (m 123 40).toInt.toNat (m 123 41).toInt.toNat ((m 123 40).toInt.toNat - (y5.toInt.toNat + 1)) (y25.toInt.toNat + 1) else none) (y := plO (cRl m ((m 123 40).toInt.toNat - (((m 123 40).toInt.toNat - (y5.toInt.toNat + 1)) + 1))) (ctv (m 149) (m 150) (cRl m) (m 123 40).toInt.toNat (m 123 41).toInt.toNat ((m 123 40).toInt.toNat - (y5.toInt.toNat + 1)) y25.toInt.toNat)) rfl (b := enc 1000000000 (plO (cRl m y5.toInt.toNat) (ctv (m 149) (m 150) (cRl m) (m 123 40).toInt.toNat (m 123 41).toInt.toNat ((m 123 40).toInt.toNat - (y5.toInt.toNat + 1)) y25.toInt.toNat))) (by rw [show (m 123 40).toInt.toNat - (((m 123 40).toInt.toNat - (y5.toInt.toNat + 1)) + 1) = y5.toInt.toNat by omega]) (fun w z => by split at z; (have y := ctv_b kCB _ (by omega) _ w z; omega); (cases z)) (fun w z => by obtain ⟨a, b, z1, z2, z3⟩ := plO_some z; have y1 := ctv_b kCB _ (by omega) _ b z2; have y2 := kCB _ (by omega) a z1; omega) ?_; rw [show (m 123 40).toInt.toNat - (((m 123 40).toInt.toNat - (y5.toInt.toNat + 1)) + 1) = y5.toInt.toNat by omega, ← k66]; first | (rw [if_pos ⟨by omega, by rw [← k89, ← k95]; exact i_eq (by omega)⟩, ← k113]; omega) | (rw [if_neg (fun q => by have q1 := q.1; omega)]; exact Or.inr ⟨by omega, by show _ ≤ (1000000000 : Int); omega⟩) | (rw [if_neg (fun q => by have q2 := congrArg Int32.toInt q.2; rw [← k89, ← k95] at q2; omega)]; exact Or.inr ⟨by omega, by show _ ≤ (1000000000 : Int); omega⟩))
                    refine pv_aload_n (M := mX12_laysCheap) 0 dX12_laysCheap_133 134 rfl rfl rfl ?_
                    refine mv_get (M := mX12_laysCheap) (v := .ref 153) dX12_laysCheap_134 FX12 46 wd1219 (by decide) (tl123 hT) rfl rfl 137 rfl ?_
                    refine pv_bipush (M := mX12_laysCheap) (v := 17) dX12_laysCheap_137 139 rfl (by decide) ?_
                    refine pv_iload_n (M := mX12_laysCheap) 1 dX12_laysCheap_139 140 rfl rfl rfl ?_
                    refine iv_imul (M := mX12_laysCheap) (X := 17) (Y := y5.toInt) dX12_laysCheap_140 141 rfl (by decide) rfl (by omega) (by omega) (fun v78 ev78 => ?_)
                    refine pv_iload_n (M := mX12_laysCheap) 2 dX12_laysCheap_141 142 rfl rfl rfl ?_
                    refine iv_iadd (M := mX12_laysCheap) (X := v78.toInt) (Y := y25.toInt) dX12_laysCheap_142 143 rfl rfl rfl (by omega) (by omega) (fun v79 ev79 => ?_)
                    refine pv_iload_n (M := mX12_laysCheap) 3 dX12_laysCheap_143 144 rfl rfl rfl ?_
                    refine iv_iast (M := mX12_laysCheap) (X := v79.toInt) (l1 := 0) (l2 := 1999999998) dX12_laysCheap_144 (tl153 hT) rfl (by omega) (by omega) I28 (fun _ => rfl) (by omega) (by omega) 145 rfl (fun m80 e83 I81 => ?_)
                    have K82 := K29.set e83 rfl
                    have w84 : (m80 123 40).toInt = (m26 123 40).toInt := by rw [e83, up2_ne (by omega)]
                    have w85 : (m80 123 41).toInt = (m26 123 41).toInt := by rw [e83, up2_ne (by omega)]
                    refine iv_inc (M := mX12_laysCheap) (C := (-1)) dX12_laysCheap_145 148 rfl rfl (by decide) rfl rfl (by decide) (by omega) (by omega) (fun v86 ev86 => ?_)
                    show PV _ _ _ _ _ _ _ 148 [.ref 123, .int y5, .int v86, .int v58] [] _
                    refine pv_goto (M := mX12_laysCheap) (tgt := 14) dX12_laysCheap_148 (by decide) ?_
                    refine pv_fg (lo2 := [.ref 123, .int y5, .int v86, pv_U]) ⟨Or.inr rfl, ⟨Or.inr rfl, ⟨Or.inr rfl, ⟨Or.inl rfl, trivial⟩⟩⟩⟩ ?_
                    have kb14 : TRt m80 (m 149) (m 150) (cRl m) (m 123 40).toInt.toNat (m 123 41).toInt.toNat y5.toInt v86.toInt := TRt_s kg14 (by omega) (by omega) (by omega) (by omega) e83 (by omega) kV (by omega)
                    exact ih32 v86 m80 n27 (by first | omega | assumption | exact (iv_rng _).2 | exact (iv_rng _).1 | decide) (by first | omega | assumption | exact (iv_rng _).2 | exact (iv_rng _).1 | decide) (by first | omega | assumption | (show y5.toInt ≤ (m 123 40).toInt; omega) | decide) (by first | omega | assumption | (show v86.toInt ≤ (m 123 41).toInt; omega) | decide) kb14 I81 K82 (by omega)
                  · have c76 := iv_nle (X := v75.toInt) (Y := y25.toInt) c76 rfl rfl
                    refine pv_aload_n (M := mX12_laysCheap) 0 dX12_laysCheap_83 84 rfl rfl rfl ?_
                    refine mv_get (M := mX12_laysCheap) (v := .ref 149) dX12_laysCheap_84 FX12 42 wd1215 (by decide) (tl123 hT) rfl rfl 87 rfl ?_
                    refine pv_iload_n (M := mX12_laysCheap) 1 dX12_laysCheap_87 88 rfl rfl rfl ?_
                    refine iv_iald (M := mX12_laysCheap) (X := y5.toInt) (l1 := 0) (l2 := 25) dX12_laysCheap_88 (tl149 hT) rfl (by omega) (by omega) I28 (fun _ => rfl) 89 rfl (fun v88 ev88 pv88 qv88 => ?_)
                    have k89 : v88 = m 149 y5.toInt.toNat := ev88.trans (K29 149 _ rfl)
                    have k89i := congrArg Int32.toInt k89
                    refine pv_aload_n (M := mX12_laysCheap) 0 dX12_laysCheap_89 90 rfl rfl rfl ?_
                    refine mv_get (M := mX12_laysCheap) (v := .ref 150) dX12_laysCheap_90 FX12 43 wd1216 (by decide) (tl123 hT) rfl rfl 93 rfl ?_
                    refine pv_iload_n (M := mX12_laysCheap) 2 dX12_laysCheap_93 94 rfl rfl rfl ?_
                    refine iv_iald (M := mX12_laysCheap) (X := y25.toInt) (l1 := 0) (l2 := 25) dX12_laysCheap_94 (tl150 hT) rfl (by omega) (by omega) I28 (fun _ => rfl) 95 rfl (fun v91 ev91 pv91 qv91 => ?_)
                    have k95 : v91 = m 150 y25.toInt.toNat := ev91.trans (K29 150 _ rfl)
                    have k95i := congrArg Int32.toInt k95
                    refine pv_icmp_ne (M := mX12_laysCheap) (tgt := 133) dX12_laysCheap_95 98 rfl (by decide) (fun c94 => ?_) (fun c94 => ?_)
                    · have c94 := iv_ne (X := v88.toInt) (Y := v91.toInt) c94 rfl rfl
                      have kV : (v58).toInt = enc 1000000000 (ctv (m 149) (m 150) (cRl m) (m 123 40).toInt.toNat (m 123 41).toInt.toNat ((m 123 40).toInt.toNat - y5.toInt.toNat) y25.toInt.toNat) := by first | (exfalso; omega) | (rw [show (m 123 40).toInt.toNat - y5.toInt.toNat = 0 by omega]; exact k66z) | (rw [show (m 123 40).toInt.toNat - y5.toInt.toNat = ((m 123 40).toInt.toNat - (y5.toInt.toNat + 1)) + 1 by omega]; refine enc_minr (x := if y25.toInt.toNat < (m 123 41).toInt.toNat ∧ m 149 ((m 123 40).toInt.toNat - (((m 123 40).toInt.toNat - (y5.toInt.toNat + 1)) + 1)) = m 150 y25.toInt.toNat then ctv (m 149) (m 150) (cRl m) (m 123 40).toInt.toNat (m 123 41).toInt.toNat ((m 123 40).toInt.toNat - (y5.toInt.toNat + 1)) (y25.toInt.toNat + 1) else none) (y := plO (cRl m ((m 123 40).toInt.toNat - (((m 123 40).toInt.toNat - (y5.toInt.toNat + 1)) + 1))) (ctv (m 149) (m 150) (cRl m) (m 123 40).toInt.toNat (m 123 41).toInt.toNat ((m 123 40).toInt.toNat - (y5.toInt.toNat + 1)) y25.toInt.toNat)) rfl (b := enc 1000000000 (plO (cRl m y5.toInt.toNat) (ctv (m 149) (m 150) (cRl m) (m 123 40).toInt.toNat (m 123 41).toInt.toNat ((m 123 40).toInt.toNat - (y5.toInt.toNat + 1)) y25.toInt.toNat))) (by rw [show (m 123 40).toInt.toNat - (((m 123 40).toInt.toNat - (y5.toInt.toNat + 1)) + 1) = y5.toInt.toNat by omega]) (fun w z => by split at z; (have y := ctv_b kCB _ (by omega) _ w z; omega); (cases z)) (fun w z => by obtain ⟨a, b, z1, z2, z3⟩ := plO_some z; have y1 := ctv_b kCB _ (by omega) _ b z2; have y2 := kCB _ (by omega) a z1; omega) ?_; rw [show (m 123 40).toInt.toNat - (((m 123 40).toInt.toNat - (y5.toInt.toNat + 1)) + 1) = y5.toInt.toNat by omega, ← k66]; first | (rw [if_pos ⟨by omega, by rw [← k89, ← k95]; exact i_eq (by omega)⟩, ← k113]; omega) | (rw [if_neg (fun q => by have q1 := q.1; omega)]; exact Or.inr ⟨by omega, by show _ ≤ (1000000000 : Int); omega⟩) | (rw [if_neg (fun q => by have q2 := congrArg Int32.toInt q.2; rw [← k89, ← k95] at q2; omega)]; exact Or.inr ⟨by omega, by show _ ≤ (1000000000 : Int); omega⟩))
                      refine pv_aload_n (M := mX12_laysCheap) 0 dX12_laysCheap_133 134 rfl rfl rfl ?_
                      refine mv_get (M := mX12_laysCheap) (v := .ref 153) dX12_laysCheap_134 FX12 46 wd1219 (by decide) (tl123 hT) rfl rfl 137 rfl ?_
                      refine pv_bipush (M := mX12_laysCheap) (v := 17) dX12_laysCheap_137 139 rfl (by decide) ?_
                      refine pv_iload_n (M := mX12_laysCheap) 1 dX12_laysCheap_139 140 rfl rfl rfl ?_
                      refine iv_imul (M := mX12_laysCheap) (X := 17) (Y := y5.toInt) dX12_laysCheap_140 141 rfl (by decide) rfl (by omega) (by omega) (fun v96 ev96 => ?_)
                      refine pv_iload_n (M := mX12_laysCheap) 2 dX12_laysCheap_141 142 rfl rfl rfl ?_
                      refine iv_iadd (M := mX12_laysCheap) (X := v96.toInt) (Y := y25.toInt) dX12_laysCheap_142 143 rfl rfl rfl (by omega) (by omega) (fun v97 ev97 => ?_)
                      refine pv_iload_n (M := mX12_laysCheap) 3 dX12_laysCheap_143 144 rfl rfl rfl ?_
                      refine iv_iast (M := mX12_laysCheap) (X := v97.toInt) (l1 := 0) (l2 := 1999999998) dX12_laysCheap_144 (tl153 hT) rfl (by omega) (by omega) I28 (fun _ => rfl) (by omega) (by omega) 145 rfl (fun m98 e101 I99 => ?_)
                      have K100 := K29.set e101 rfl
                      have w102 : (m98 123 40).toInt = (m26 123 40).toInt := by rw [e101, up2_ne (by omega)]
                      have w103 : (m98 123 41).toInt = (m26 123 41).toInt := by rw [e101, up2_ne (by omega)]
                      refine iv_inc (M := mX12_laysCheap) (C := (-1)) dX12_laysCheap_145 148 rfl rfl (by decide) rfl rfl (by decide) (by omega) (by omega) (fun v104 ev104 => ?_)
                      show PV _ _ _ _ _ _ _ 148 [.ref 123, .int y5, .int v104, .int v58] [] _
                      refine pv_goto (M := mX12_laysCheap) (tgt := 14) dX12_laysCheap_148 (by decide) ?_
                      refine pv_fg (lo2 := [.ref 123, .int y5, .int v104, pv_U]) ⟨Or.inr rfl, ⟨Or.inr rfl, ⟨Or.inr rfl, ⟨Or.inl rfl, trivial⟩⟩⟩⟩ ?_
                      have kb14 : TRt m98 (m 149) (m 150) (cRl m) (m 123 40).toInt.toNat (m 123 41).toInt.toNat y5.toInt v104.toInt := TRt_s kg14 (by omega) (by omega) (by omega) (by omega) e101 (by omega) kV (by omega)
                      exact ih32 v104 m98 n27 (by first | omega | assumption | exact (iv_rng _).2 | exact (iv_rng _).1 | decide) (by first | omega | assumption | exact (iv_rng _).2 | exact (iv_rng _).1 | decide) (by first | omega | assumption | (show y5.toInt ≤ (m 123 40).toInt; omega) | decide) (by first | omega | assumption | (show v104.toInt ≤ (m 123 41).toInt; omega) | decide) kb14 I99 K100 (by omega)
                    · have c94 := iv_eq (X := v88.toInt) (Y := v91.toInt) c94 rfl rfl
                      refine pv_aload_n (M := mX12_laysCheap) 0 dX12_laysCheap_98 99 rfl rfl rfl ?_
                      refine mv_get (M := mX12_laysCheap) (v := .ref 153) dX12_laysCheap_99 FX12 46 wd1219 (by decide) (tl123 hT) rfl rfl 102 rfl ?_
                      refine pv_bipush (M := mX12_laysCheap) (v := 17) dX12_laysCheap_102 104 rfl (by decide) ?_
                      refine pv_iload_n (M := mX12_laysCheap) 1 dX12_laysCheap_104 105 rfl rfl rfl ?_
                      refine pv_iconst (M := mX12_laysCheap) (v := 1) dX12_laysCheap_105 106 rfl (by decide) ?_
                      refine iv_iadd (M := mX12_laysCheap) (X := y5.toInt) (Y := 1) dX12_laysCheap_106 107 rfl rfl (by decide) (by omega) (by omega) (fun v106 ev106 => ?_)
                      refine iv_imul (M := mX12_laysCheap) (X := 17) (Y := v106.toInt) dX12_laysCheap_107 108 rfl (by decide) rfl (by omega) (by omega) (fun v107 ev107 => ?_)
                      refine pv_iload_n (M := mX12_laysCheap) 2 dX12_laysCheap_108 109 rfl rfl rfl ?_
                      refine iv_iadd (M := mX12_laysCheap) (X := v107.toInt) (Y := y25.toInt) dX12_laysCheap_109 110 rfl rfl rfl (by omega) (by omega) (fun v108 ev108 => ?_)
                      refine pv_iconst (M := mX12_laysCheap) (v := 1) dX12_laysCheap_110 111 rfl (by decide) ?_
                      refine iv_iadd (M := mX12_laysCheap) (X := v108.toInt) (Y := 1) dX12_laysCheap_111 112 rfl rfl (by decide) (by omega) (by omega) (fun v109 ev109 => ?_)
                      refine iv_iald (M := mX12_laysCheap) (X := v109.toInt) (l1 := 0) (l2 := 1999999998) dX12_laysCheap_112 (tl153 hT) rfl (by omega) (by omega) I28 (fun _ => rfl) 113 rfl (fun v110 ev110 pv110 qv110 => ?_)
                      have k113 : v110.toInt = enc 1000000000 (ctv (m 149) (m 150) (cRl m) (m 123 40).toInt.toNat (m 123 41).toInt.toNat ((m 123 40).toInt.toNat - (y5.toInt.toNat + 1)) (y25.toInt.toNat + 1)) := by rw [ev110]; have q := kg14 (y5.toInt.toNat + 1) (y25.toInt.toNat + 1) (by omega) (by omega) (by omega); rw [← q]; congr 2; omega
                      refine pv_iload_n (M := mX12_laysCheap) 3 dX12_laysCheap_113 114 rfl rfl rfl ?_
                      refine pv_icmp_ge (M := mX12_laysCheap) (tgt := 133) dX12_laysCheap_114 117 rfl (by decide) (fun c112 => ?_) (fun c112 => ?_)
                      · have c112 := iv_le (X := v58.toInt) (Y := v110.toInt) c112 rfl rfl
                        have kV : (v58).toInt = enc 1000000000 (ctv (m 149) (m 150) (cRl m) (m 123 40).toInt.toNat (m 123 41).toInt.toNat ((m 123 40).toInt.toNat - y5.toInt.toNat) y25.toInt.toNat) := by first | (exfalso; omega) | (rw [show (m 123 40).toInt.toNat - y5.toInt.toNat = 0 by omega]; exact k66z) | (rw [show (m 123 40).toInt.toNat - y5.toInt.toNat = ((m 123 40).toInt.toNat - (y5.toInt.toNat + 1)) + 1 by omega]; refine enc_minr (x := if y25.toInt.toNat < (m 123 41).toInt.toNat ∧ m 149 ((m 123 40).toInt.toNat - (((m 123 40).toInt.toNat - (y5.toInt.toNat + 1)) + 1)) = m 150 y25.toInt.toNat then ctv (m 149) (m 150) (cRl m) (m 123 40).toInt.toNat (m 123 41).toInt.toNat ((m 123 40).toInt.toNat - (y5.toInt.toNat + 1)) (y25.toInt.toNat + 1) else none) (y := plO (cRl m ((m 123 40).toInt.toNat - (((m 123 40).toInt.toNat - (y5.toInt.toNat + 1)) + 1))) (ctv (m 149) (m 150) (cRl m) (m 123 40).toInt.toNat (m 123 41).toInt.toNat ((m 123 40).toInt.toNat - (y5.toInt.toNat + 1)) y25.toInt.toNat)) rfl (b := enc 1000000000 (plO (cRl m y5.toInt.toNat) (ctv (m 149) (m 150) (cRl m) (m 123 40).toInt.toNat (m 123 41).toInt.toNat ((m 123 40).toInt.toNat - (y5.toInt.toNat + 1)) y25.toInt.toNat))) (by rw [show (m 123 40).toInt.toNat - (((m 123 40).toInt.toNat - (y5.toInt.toNat + 1)) + 1) = y5.toInt.toNat by omega]) (fun w z => by split at z; (have y := ctv_b kCB _ (by omega) _ w z; omega); (cases z)) (fun w z => by obtain ⟨a, b, z1, z2, z3⟩ := plO_some z; have y1 := ctv_b kCB _ (by omega) _ b z2; have y2 := kCB _ (by omega) a z1; omega) ?_; rw [show (m 123 40).toInt.toNat - (((m 123 40).toInt.toNat - (y5.toInt.toNat + 1)) + 1) = y5.toInt.toNat by omega, ← k66]; first | (rw [if_pos ⟨by omega, by rw [← k89, ← k95]; exact i_eq (by omega)⟩, ← k113]; omega) | (rw [if_neg (fun q => by have q1 := q.1; omega)]; exact Or.inr ⟨by omega, by show _ ≤ (1000000000 : Int); omega⟩) | (rw [if_neg (fun q => by have q2 := congrArg Int32.toInt q.2; rw [← k89, ← k95] at q2; omega)]; exact Or.inr ⟨by omega, by show _ ≤ (1000000000 : Int); omega⟩))
                        refine pv_aload_n (M := mX12_laysCheap) 0 dX12_laysCheap_133 134 rfl rfl rfl ?_
                        refine mv_get (M := mX12_laysCheap) (v := .ref 153) dX12_laysCheap_134 FX12 46 wd1219 (by decide) (tl123 hT) rfl rfl 137 rfl ?_
                        refine pv_bipush (M := mX12_laysCheap) (v := 17) dX12_laysCheap_137 139 rfl (by decide) ?_
                        refine pv_iload_n (M := mX12_laysCheap) 1 dX12_laysCheap_139 140 rfl rfl rfl ?_
                        refine iv_imul (M := mX12_laysCheap) (X := 17) (Y := y5.toInt) dX12_laysCheap_140 141 rfl (by decide) rfl (by omega) (by omega) (fun v114 ev114 => ?_)
                        refine pv_iload_n (M := mX12_laysCheap) 2 dX12_laysCheap_141 142 rfl rfl rfl ?_
                        refine iv_iadd (M := mX12_laysCheap) (X := v114.toInt) (Y := y25.toInt) dX12_laysCheap_142 143 rfl rfl rfl (by omega) (by omega) (fun v115 ev115 => ?_)
                        refine pv_iload_n (M := mX12_laysCheap) 3 dX12_laysCheap_143 144 rfl rfl rfl ?_
                        refine iv_iast (M := mX12_laysCheap) (X := v115.toInt) (l1 := 0) (l2 := 1999999998) dX12_laysCheap_144 (tl153 hT) rfl (by omega) (by omega) I28 (fun _ => rfl) (by omega) (by omega) 145 rfl (fun m116 e119 I117 => ?_)
                        have K118 := K29.set e119 rfl
                        have w120 : (m116 123 40).toInt = (m26 123 40).toInt := by rw [e119, up2_ne (by omega)]
                        have w121 : (m116 123 41).toInt = (m26 123 41).toInt := by rw [e119, up2_ne (by omega)]
                        refine iv_inc (M := mX12_laysCheap) (C := (-1)) dX12_laysCheap_145 148 rfl rfl (by decide) rfl rfl (by decide) (by omega) (by omega) (fun v122 ev122 => ?_)
                        show PV _ _ _ _ _ _ _ 148 [.ref 123, .int y5, .int v122, .int v58] [] _
                        refine pv_goto (M := mX12_laysCheap) (tgt := 14) dX12_laysCheap_148 (by decide) ?_
                        refine pv_fg (lo2 := [.ref 123, .int y5, .int v122, pv_U]) ⟨Or.inr rfl, ⟨Or.inr rfl, ⟨Or.inr rfl, ⟨Or.inl rfl, trivial⟩⟩⟩⟩ ?_
                        have kb14 : TRt m116 (m 149) (m 150) (cRl m) (m 123 40).toInt.toNat (m 123 41).toInt.toNat y5.toInt v122.toInt := TRt_s kg14 (by omega) (by omega) (by omega) (by omega) e119 (by omega) kV (by omega)
                        exact ih32 v122 m116 n27 (by first | omega | assumption | exact (iv_rng _).2 | exact (iv_rng _).1 | decide) (by first | omega | assumption | exact (iv_rng _).2 | exact (iv_rng _).1 | decide) (by first | omega | assumption | (show y5.toInt ≤ (m 123 40).toInt; omega) | decide) (by first | omega | assumption | (show v122.toInt ≤ (m 123 41).toInt; omega) | decide) kb14 I117 K118 (by omega)
                      · have c112 := iv_nle (X := v58.toInt) (Y := v110.toInt) c112 rfl rfl
                        refine pv_aload_n (M := mX12_laysCheap) 0 dX12_laysCheap_117 118 rfl rfl rfl ?_
                        refine mv_get (M := mX12_laysCheap) (v := .ref 153) dX12_laysCheap_118 FX12 46 wd1219 (by decide) (tl123 hT) rfl rfl 121 rfl ?_
                        refine pv_bipush (M := mX12_laysCheap) (v := 17) dX12_laysCheap_121 123 rfl (by decide) ?_
                        refine pv_iload_n (M := mX12_laysCheap) 1 dX12_laysCheap_123 124 rfl rfl rfl ?_
                        refine pv_iconst (M := mX12_laysCheap) (v := 1) dX12_laysCheap_124 125 rfl (by decide) ?_
                        refine iv_iadd (M := mX12_laysCheap) (X := y5.toInt) (Y := 1) dX12_laysCheap_125 126 rfl rfl (by decide) (by omega) (by omega) (fun v124 ev124 => ?_)
                        refine iv_imul (M := mX12_laysCheap) (X := 17) (Y := v124.toInt) dX12_laysCheap_126 127 rfl (by decide) rfl (by omega) (by omega) (fun v125 ev125 => ?_)
                        refine pv_iload_n (M := mX12_laysCheap) 2 dX12_laysCheap_127 128 rfl rfl rfl ?_
                        refine iv_iadd (M := mX12_laysCheap) (X := v125.toInt) (Y := y25.toInt) dX12_laysCheap_128 129 rfl rfl rfl (by omega) (by omega) (fun v126 ev126 => ?_)
                        refine pv_iconst (M := mX12_laysCheap) (v := 1) dX12_laysCheap_129 130 rfl (by decide) ?_
                        refine iv_iadd (M := mX12_laysCheap) (X := v126.toInt) (Y := 1) dX12_laysCheap_130 131 rfl rfl (by decide) (by omega) (by omega) (fun v127 ev127 => ?_)
                        refine iv_iald (M := mX12_laysCheap) (X := v127.toInt) (l1 := 0) (l2 := 1999999998) dX12_laysCheap_131 (tl153 hT) rfl (by omega) (by omega) I28 (fun _ => rfl) 132 rfl (fun v128 ev128 pv128 qv128 => ?_)
                        have k132 : v128.toInt = enc 1000000000 (ctv (m 149) (m 150) (cRl m) (m 123 40).toInt.toNat (m 123 41).toInt.toNat ((m 123 40).toInt.toNat - (y5.toInt.toNat + 1)) (y25.toInt.toNat + 1)) := by rw [ev128]; have q := kg14 (y5.toInt.toNat + 1) (y25.toInt.toNat + 1) (by omega) (by omega) (by omega); rw [← q]; congr 2; omega
                        refine pv_istore_n (M := mX12_laysCheap) 3 (lo2 := [.ref 123, .int y5, .int y25, .int v128]) dX12_laysCheap_132 133 rfl rfl (by decide) rfl rfl ?_
                        have kV : (v128).toInt = enc 1000000000 (ctv (m 149) (m 150) (cRl m) (m 123 40).toInt.toNat (m 123 41).toInt.toNat ((m 123 40).toInt.toNat - y5.toInt.toNat) y25.toInt.toNat) := by first | (exfalso; omega) | (rw [show (m 123 40).toInt.toNat - y5.toInt.toNat = 0 by omega]; exact k66z) | (rw [show (m 123 40).toInt.toNat - y5.toInt.toNat = ((m 123 40).toInt.toNat - (y5.toInt.toNat + 1)) + 1 by omega]; refine enc_minr (x := if y25.toInt.toNat < (m 123 41).toInt.toNat ∧ m 149 ((m 123 40).toInt.toNat - (((m 123 40).toInt.toNat - (y5.toInt.toNat + 1)) + 1)) = m 150 y25.toInt.toNat then ctv (m 149) (m 150) (cRl m) (m 123 40).toInt.toNat (m 123 41).toInt.toNat ((m 123 40).toInt.toNat - (y5.toInt.toNat + 1)) (y25.toInt.toNat + 1) else none) (y := plO (cRl m ((m 123 40).toInt.toNat - (((m 123 40).toInt.toNat - (y5.toInt.toNat + 1)) + 1))) (ctv (m 149) (m 150) (cRl m) (m 123 40).toInt.toNat (m 123 41).toInt.toNat ((m 123 40).toInt.toNat - (y5.toInt.toNat + 1)) y25.toInt.toNat)) rfl (b := enc 1000000000 (plO (cRl m y5.toInt.toNat) (ctv (m 149) (m 150) (cRl m) (m 123 40).toInt.toNat (m 123 41).toInt.toNat ((m 123 40).toInt.toNat - (y5.toInt.toNat + 1)) y25.toInt.toNat))) (by rw [show (m 123 40).toInt.toNat - (((m 123 40).toInt.toNat - (y5.toInt.toNat + 1)) + 1) = y5.toInt.toNat by omega]) (fun w z => by split at z; (have y := ctv_b kCB _ (by omega) _ w z; omega); (cases z)) (fun w z => by obtain ⟨a, b, z1, z2, z3⟩ := plO_some z; have y1 := ctv_b kCB _ (by omega) _ b z2; have y2 := kCB _ (by omega) a z1; omega) ?_; rw [show (m 123 40).toInt.toNat - (((m 123 40).toInt.toNat - (y5.toInt.toNat + 1)) + 1) = y5.toInt.toNat by omega, ← k66]; first | (rw [if_pos ⟨by omega, by rw [← k89, ← k95]; exact i_eq (by omega)⟩, ← k113]; omega) | (rw [if_neg (fun q => by have q1 := q.1; omega)]; exact Or.inr ⟨by omega, by show _ ≤ (1000000000 : Int); omega⟩) | (rw [if_neg (fun q => by have q2 := congrArg Int32.toInt q.2; rw [← k89, ← k95] at q2; omega)]; exact Or.inr ⟨by omega, by show _ ≤ (1000000000 : Int); omega⟩))
                        refine pv_aload_n (M := mX12_laysCheap) 0 dX12_laysCheap_133 134 rfl rfl rfl ?_
                        refine mv_get (M := mX12_laysCheap) (v := .ref 153) dX12_laysCheap_134 FX12 46 wd1219 (by decide) (tl123 hT) rfl rfl 137 rfl ?_
                        refine pv_bipush (M := mX12_laysCheap) (v := 17) dX12_laysCheap_137 139 rfl (by decide) ?_
                        refine pv_iload_n (M := mX12_laysCheap) 1 dX12_laysCheap_139 140 rfl rfl rfl ?_
                        refine iv_imul (M := mX12_laysCheap) (X := 17) (Y := y5.toInt) dX12_laysCheap_140 141 rfl (by decide) rfl (by omega) (by omega) (fun v131 ev131 => ?_)
                        refine pv_iload_n (M := mX12_laysCheap) 2 dX12_laysCheap_141 142 rfl rfl rfl ?_
                        refine iv_iadd (M := mX12_laysCheap) (X := v131.toInt) (Y := y25.toInt) dX12_laysCheap_142 143 rfl rfl rfl (by omega) (by omega) (fun v132 ev132 => ?_)
                        refine pv_iload_n (M := mX12_laysCheap) 3 dX12_laysCheap_143 144 rfl rfl rfl ?_
                        refine iv_iast (M := mX12_laysCheap) (X := v132.toInt) (l1 := 0) (l2 := 1999999998) dX12_laysCheap_144 (tl153 hT) rfl (by omega) (by omega) I28 (fun _ => rfl) (by omega) (by omega) 145 rfl (fun m133 e136 I134 => ?_)
                        have K135 := K29.set e136 rfl
                        have w137 : (m133 123 40).toInt = (m26 123 40).toInt := by rw [e136, up2_ne (by omega)]
                        have w138 : (m133 123 41).toInt = (m26 123 41).toInt := by rw [e136, up2_ne (by omega)]
                        refine iv_inc (M := mX12_laysCheap) (C := (-1)) dX12_laysCheap_145 148 rfl rfl (by decide) rfl rfl (by decide) (by omega) (by omega) (fun v139 ev139 => ?_)
                        show PV _ _ _ _ _ _ _ 148 [.ref 123, .int y5, .int v139, .int v128] [] _
                        refine pv_goto (M := mX12_laysCheap) (tgt := 14) dX12_laysCheap_148 (by decide) ?_
                        refine pv_fg (lo2 := [.ref 123, .int y5, .int v139, pv_U]) ⟨Or.inr rfl, ⟨Or.inr rfl, ⟨Or.inr rfl, ⟨Or.inl rfl, trivial⟩⟩⟩⟩ ?_
                        have kb14 : TRt m133 (m 149) (m 150) (cRl m) (m 123 40).toInt.toNat (m 123 41).toInt.toNat y5.toInt v139.toInt := TRt_s kg14 (by omega) (by omega) (by omega) (by omega) e136 (by omega) kV (by omega)
                        exact ih32 v139 m133 n27 (by first | omega | assumption | exact (iv_rng _).2 | exact (iv_rng _).1 | decide) (by first | omega | assumption | exact (iv_rng _).2 | exact (iv_rng _).1 | decide) (by first | omega | assumption | (show y5.toInt ≤ (m 123 40).toInt; omega) | decide) (by first | omega | assumption | (show v139.toInt ≤ (m 123 41).toInt; omega) | decide) kb14 I134 K135 (by omega)
              · have c49 := iv_eq (X := y5.toInt) (Y := v48.toInt) c49 rfl rfl
                refine pv_iload_n (M := mX12_laysCheap) 2 dX12_laysCheap_26 27 rfl rfl rfl ?_
                refine pv_aload_n (M := mX12_laysCheap) 0 dX12_laysCheap_27 28 rfl rfl rfl ?_
                refine iv_get (M := mX12_laysCheap) (l1 := 0) (l2 := 16) dX12_laysCheap_28 FX12 41 wd1214 (by decide) (tl123 hT) rfl I28 rfl 31 rfl (fun v141 ev141 pv141 qv141 => ?_)
                have wv141 : v141.toInt = (m26 123 41).toInt := congrArg Int32.toInt ev141
                refine pv_icmp_ne (M := mX12_laysCheap) (tgt := 38) dX12_laysCheap_31 34 rfl (by decide) (fun c142 => ?_) (fun c142 => ?_)
                · have c142 := iv_ne (X := y25.toInt) (Y := v141.toInt) c142 rfl rfl
                  refine pv_ldcw (M := mX12_laysCheap) (v := 1000000000) dX12_laysCheap_38 41 rfl wd1583 ?_
                  refine pv_goto (M := mX12_laysCheap) (tgt := 66) dX12_laysCheap_41 (by decide) ?_
                  try have k66 := enc_sum k63a k63b (fun w z => kCB _ (by omega) w z) (fun w z => by have y := ctv_b kCB _ (by omega) _ w z; omega) rlit
                  try have k66b := enc_le k66 (fun w z => by obtain ⟨a, b, z1, z2, z3⟩ := plO_some z; have y1 := ctv_b kCB _ (by omega) _ b z2; have y2 := kCB _ (by omega) a z1; omega)
                  try have k66z : 1000000000 = enc 1000000000 (if y25.toInt.toNat = (m 123 41).toInt.toNat then some 0 else none) := by first | (rw [if_pos (by omega)]; rfl) | (rw [if_neg (by omega)]; rfl)
                  refine pv_istore_n (M := mX12_laysCheap) 3 (lo2 := [.ref 123, .int y5, .int y25, .int 1000000000]) dX12_laysCheap_66 67 rfl rfl (by decide) rfl rfl ?_
                  refine pv_iload_n (M := mX12_laysCheap) 1 dX12_laysCheap_67 68 rfl rfl rfl ?_
                  refine pv_aload_n (M := mX12_laysCheap) 0 dX12_laysCheap_68 69 rfl rfl rfl ?_
                  refine iv_get (M := mX12_laysCheap) (l1 := 0) (l2 := 40) dX12_laysCheap_69 FX12 40 wd1213 (by decide) (tl123 hT) rfl I28 rfl 72 rfl (fun v146 ev146 pv146 qv146 => ?_)
                  have wv146 : v146.toInt = (m26 123 40).toInt := congrArg Int32.toInt ev146
                  refine pv_icmp_ge (M := mX12_laysCheap) (tgt := 133) dX12_laysCheap_72 75 rfl (by decide) (fun c147 => ?_) (fun c147 => ?_)
                  · have c147 := iv_le (X := v146.toInt) (Y := y5.toInt) c147 rfl rfl
                    have kV : ((1000000000 : Int32)).toInt = enc 1000000000 (ctv (m 149) (m 150) (cRl m) (m 123 40).toInt.toNat (m 123 41).toInt.toNat ((m 123 40).toInt.toNat - y5.toInt.toNat) y25.toInt.toNat) := by first | (exfalso; omega) | (rw [show (m 123 40).toInt.toNat - y5.toInt.toNat = 0 by omega]; exact k66z) | (rw [show (m 123 40).toInt.toNat - y5.toInt.toNat = ((m 123 40).toInt.toNat - (y5.toInt.toNat + 1)) + 1 by omega]; refine enc_minr (x := if y25.toInt.toNat < (m 123 41).toInt.toNat ∧ m 149 ((m 123 40).toInt.toNat - (((m 123 40).toInt.toNat - (y5.toInt.toNat + 1)) + 1)) = m 150 y25.toInt.toNat then ctv (m 149) (m 150) (cRl m) (m 123 40).toInt.toNat (m 123 41).toInt.toNat ((m 123 40).toInt.toNat - (y5.toInt.toNat + 1)) (y25.toInt.toNat + 1) else none) (y := plO (cRl m ((m 123 40).toInt.toNat - (((m 123 40).toInt.toNat - (y5.toInt.toNat + 1)) + 1))) (ctv (m 149) (m 150) (cRl m) (m 123 40).toInt.toNat (m 123 41).toInt.toNat ((m 123 40).toInt.toNat - (y5.toInt.toNat + 1)) y25.toInt.toNat)) rfl (b := enc 1000000000 (plO (cRl m y5.toInt.toNat) (ctv (m 149) (m 150) (cRl m) (m 123 40).toInt.toNat (m 123 41).toInt.toNat ((m 123 40).toInt.toNat - (y5.toInt.toNat + 1)) y25.toInt.toNat))) (by rw [show (m 123 40).toInt.toNat - (((m 123 40).toInt.toNat - (y5.toInt.toNat + 1)) + 1) = y5.toInt.toNat by omega]) (fun w z => by split at z; (have y := ctv_b kCB _ (by omega) _ w z; omega); (cases z)) (fun w z => by obtain ⟨a, b, z1, z2, z3⟩ := plO_some z; have y1 := ctv_b kCB _ (by omega) _ b z2; have y2 := kCB _ (by omega) a z1; omega) ?_; rw [show (m 123 40).toInt.toNat - (((m 123 40).toInt.toNat - (y5.toInt.toNat + 1)) + 1) = y5.toInt.toNat by omega, ← k66]; first | (rw [if_pos ⟨by omega, by rw [← k89, ← k95]; exact i_eq (by omega)⟩, ← k113]; omega) | (rw [if_neg (fun q => by have q1 := q.1; omega)]; exact Or.inr ⟨by omega, by show _ ≤ (1000000000 : Int); omega⟩) | (rw [if_neg (fun q => by have q2 := congrArg Int32.toInt q.2; rw [← k89, ← k95] at q2; omega)]; exact Or.inr ⟨by omega, by show _ ≤ (1000000000 : Int); omega⟩))
                    refine pv_aload_n (M := mX12_laysCheap) 0 dX12_laysCheap_133 134 rfl rfl rfl ?_
                    refine mv_get (M := mX12_laysCheap) (v := .ref 153) dX12_laysCheap_134 FX12 46 wd1219 (by decide) (tl123 hT) rfl rfl 137 rfl ?_
                    refine pv_bipush (M := mX12_laysCheap) (v := 17) dX12_laysCheap_137 139 rfl (by decide) ?_
                    refine pv_iload_n (M := mX12_laysCheap) 1 dX12_laysCheap_139 140 rfl rfl rfl ?_
                    refine iv_imul (M := mX12_laysCheap) (X := 17) (Y := y5.toInt) dX12_laysCheap_140 141 rfl (by decide) rfl (by omega) (by omega) (fun v149 ev149 => ?_)
                    refine pv_iload_n (M := mX12_laysCheap) 2 dX12_laysCheap_141 142 rfl rfl rfl ?_
                    refine iv_iadd (M := mX12_laysCheap) (X := v149.toInt) (Y := y25.toInt) dX12_laysCheap_142 143 rfl rfl rfl (by omega) (by omega) (fun v150 ev150 => ?_)
                    refine pv_iload_n (M := mX12_laysCheap) 3 dX12_laysCheap_143 144 rfl rfl rfl ?_
                    refine iv_iast (M := mX12_laysCheap) (X := v150.toInt) (l1 := 0) (l2 := 1999999998) dX12_laysCheap_144 (tl153 hT) rfl (by omega) (by omega) I28 (fun _ => rfl) (by decide) (by decide) 145 rfl (fun m151 e154 I152 => ?_)
                    have K153 := K29.set e154 rfl
                    have w155 : (m151 123 40).toInt = (m26 123 40).toInt := by rw [e154, up2_ne (by omega)]
                    have w156 : (m151 123 41).toInt = (m26 123 41).toInt := by rw [e154, up2_ne (by omega)]
                    refine iv_inc (M := mX12_laysCheap) (C := (-1)) dX12_laysCheap_145 148 rfl rfl (by decide) rfl rfl (by decide) (by omega) (by omega) (fun v157 ev157 => ?_)
                    show PV _ _ _ _ _ _ _ 148 [.ref 123, .int y5, .int v157, .int 1000000000] [] _
                    refine pv_goto (M := mX12_laysCheap) (tgt := 14) dX12_laysCheap_148 (by decide) ?_
                    refine pv_fg (lo2 := [.ref 123, .int y5, .int v157, pv_U]) ⟨Or.inr rfl, ⟨Or.inr rfl, ⟨Or.inr rfl, ⟨Or.inl rfl, trivial⟩⟩⟩⟩ ?_
                    have kb14 : TRt m151 (m 149) (m 150) (cRl m) (m 123 40).toInt.toNat (m 123 41).toInt.toNat y5.toInt v157.toInt := TRt_s kg14 (by omega) (by omega) (by omega) (by omega) e154 (by omega) kV (by omega)
                    exact ih32 v157 m151 n27 (by first | omega | assumption | exact (iv_rng _).2 | exact (iv_rng _).1 | decide) (by first | omega | assumption | exact (iv_rng _).2 | exact (iv_rng _).1 | decide) (by first | omega | assumption | (show y5.toInt ≤ (m 123 40).toInt; omega) | decide) (by first | omega | assumption | (show v157.toInt ≤ (m 123 41).toInt; omega) | decide) kb14 I152 K153 (by omega)
                  · have c147 := iv_nle (X := v146.toInt) (Y := y5.toInt) c147 rfl rfl
                    refine pv_iload_n (M := mX12_laysCheap) 2 dX12_laysCheap_75 76 rfl rfl rfl ?_
                    refine pv_aload_n (M := mX12_laysCheap) 0 dX12_laysCheap_76 77 rfl rfl rfl ?_
                    refine iv_get (M := mX12_laysCheap) (l1 := 0) (l2 := 16) dX12_laysCheap_77 FX12 41 wd1214 (by decide) (tl123 hT) rfl I28 rfl 80 rfl (fun v159 ev159 pv159 qv159 => ?_)
                    have wv159 : v159.toInt = (m26 123 41).toInt := congrArg Int32.toInt ev159
                    refine pv_icmp_ge (M := mX12_laysCheap) (tgt := 133) dX12_laysCheap_80 83 rfl (by decide) (fun c160 => ?_) (fun c160 => ?_)
                    · have c160 := iv_le (X := v159.toInt) (Y := y25.toInt) c160 rfl rfl
                      have kV : ((1000000000 : Int32)).toInt = enc 1000000000 (ctv (m 149) (m 150) (cRl m) (m 123 40).toInt.toNat (m 123 41).toInt.toNat ((m 123 40).toInt.toNat - y5.toInt.toNat) y25.toInt.toNat) := by first | (exfalso; omega) | (rw [show (m 123 40).toInt.toNat - y5.toInt.toNat = 0 by omega]; exact k66z) | (rw [show (m 123 40).toInt.toNat - y5.toInt.toNat = ((m 123 40).toInt.toNat - (y5.toInt.toNat + 1)) + 1 by omega]; refine enc_minr (x := if y25.toInt.toNat < (m 123 41).toInt.toNat ∧ m 149 ((m 123 40).toInt.toNat - (((m 123 40).toInt.toNat - (y5.toInt.toNat + 1)) + 1)) = m 150 y25.toInt.toNat then ctv (m 149) (m 150) (cRl m) (m 123 40).toInt.toNat (m 123 41).toInt.toNat ((m 123 40).toInt.toNat - (y5.toInt.toNat + 1)) (y25.toInt.toNat + 1) else none) (y := plO (cRl m ((m 123 40).toInt.toNat - (((m 123 40).toInt.toNat - (y5.toInt.toNat + 1)) + 1))) (ctv (m 149) (m 150) (cRl m) (m 123 40).toInt.toNat (m 123 41).toInt.toNat ((m 123 40).toInt.toNat - (y5.toInt.toNat + 1)) y25.toInt.toNat)) rfl (b := enc 1000000000 (plO (cRl m y5.toInt.toNat) (ctv (m 149) (m 150) (cRl m) (m 123 40).toInt.toNat (m 123 41).toInt.toNat ((m 123 40).toInt.toNat - (y5.toInt.toNat + 1)) y25.toInt.toNat))) (by rw [show (m 123 40).toInt.toNat - (((m 123 40).toInt.toNat - (y5.toInt.toNat + 1)) + 1) = y5.toInt.toNat by omega]) (fun w z => by split at z; (have y := ctv_b kCB _ (by omega) _ w z; omega); (cases z)) (fun w z => by obtain ⟨a, b, z1, z2, z3⟩ := plO_some z; have y1 := ctv_b kCB _ (by omega) _ b z2; have y2 := kCB _ (by omega) a z1; omega) ?_; rw [show (m 123 40).toInt.toNat - (((m 123 40).toInt.toNat - (y5.toInt.toNat + 1)) + 1) = y5.toInt.toNat by omega, ← k66]; first | (rw [if_pos ⟨by omega, by rw [← k89, ← k95]; exact i_eq (by omega)⟩, ← k113]; omega) | (rw [if_neg (fun q => by have q1 := q.1; omega)]; exact Or.inr ⟨by omega, by show _ ≤ (1000000000 : Int); omega⟩) | (rw [if_neg (fun q => by have q2 := congrArg Int32.toInt q.2; rw [← k89, ← k95] at q2; omega)]; exact Or.inr ⟨by omega, by show _ ≤ (1000000000 : Int); omega⟩))
                      refine pv_aload_n (M := mX12_laysCheap) 0 dX12_laysCheap_133 134 rfl rfl rfl ?_
                      refine mv_get (M := mX12_laysCheap) (v := .ref 153) dX12_laysCheap_134 FX12 46 wd1219 (by decide) (tl123 hT) rfl rfl 137 rfl ?_
                      refine pv_bipush (M := mX12_laysCheap) (v := 17) dX12_laysCheap_137 139 rfl (by decide) ?_
                      refine pv_iload_n (M := mX12_laysCheap) 1 dX12_laysCheap_139 140 rfl rfl rfl ?_
                      refine iv_imul (M := mX12_laysCheap) (X := 17) (Y := y5.toInt) dX12_laysCheap_140 141 rfl (by decide) rfl (by omega) (by omega) (fun v162 ev162 => ?_)
                      refine pv_iload_n (M := mX12_laysCheap) 2 dX12_laysCheap_141 142 rfl rfl rfl ?_
                      refine iv_iadd (M := mX12_laysCheap) (X := v162.toInt) (Y := y25.toInt) dX12_laysCheap_142 143 rfl rfl rfl (by omega) (by omega) (fun v163 ev163 => ?_)
                      refine pv_iload_n (M := mX12_laysCheap) 3 dX12_laysCheap_143 144 rfl rfl rfl ?_
                      refine iv_iast (M := mX12_laysCheap) (X := v163.toInt) (l1 := 0) (l2 := 1999999998) dX12_laysCheap_144 (tl153 hT) rfl (by omega) (by omega) I28 (fun _ => rfl) (by decide) (by decide) 145 rfl (fun m164 e167 I165 => ?_)
                      have K166 := K29.set e167 rfl
                      have w168 : (m164 123 40).toInt = (m26 123 40).toInt := by rw [e167, up2_ne (by omega)]
                      have w169 : (m164 123 41).toInt = (m26 123 41).toInt := by rw [e167, up2_ne (by omega)]
                      refine iv_inc (M := mX12_laysCheap) (C := (-1)) dX12_laysCheap_145 148 rfl rfl (by decide) rfl rfl (by decide) (by omega) (by omega) (fun v170 ev170 => ?_)
                      show PV _ _ _ _ _ _ _ 148 [.ref 123, .int y5, .int v170, .int 1000000000] [] _
                      refine pv_goto (M := mX12_laysCheap) (tgt := 14) dX12_laysCheap_148 (by decide) ?_
                      refine pv_fg (lo2 := [.ref 123, .int y5, .int v170, pv_U]) ⟨Or.inr rfl, ⟨Or.inr rfl, ⟨Or.inr rfl, ⟨Or.inl rfl, trivial⟩⟩⟩⟩ ?_
                      have kb14 : TRt m164 (m 149) (m 150) (cRl m) (m 123 40).toInt.toNat (m 123 41).toInt.toNat y5.toInt v170.toInt := TRt_s kg14 (by omega) (by omega) (by omega) (by omega) e167 (by omega) kV (by omega)
                      exact ih32 v170 m164 n27 (by first | omega | assumption | exact (iv_rng _).2 | exact (iv_rng _).1 | decide) (by first | omega | assumption | exact (iv_rng _).2 | exact (iv_rng _).1 | decide) (by first | omega | assumption | (show y5.toInt ≤ (m 123 40).toInt; omega) | decide) (by first | omega | assumption | (show v170.toInt ≤ (m 123 41).toInt; omega) | decide) kb14 I165 K166 (by omega)
                    · have c160 := iv_nle (X := v159.toInt) (Y := y25.toInt) c160 rfl rfl
                      refine pv_aload_n (M := mX12_laysCheap) 0 dX12_laysCheap_83 84 rfl rfl rfl ?_
                      refine mv_get (M := mX12_laysCheap) (v := .ref 149) dX12_laysCheap_84 FX12 42 wd1215 (by decide) (tl123 hT) rfl rfl 87 rfl ?_
                      refine pv_iload_n (M := mX12_laysCheap) 1 dX12_laysCheap_87 88 rfl rfl rfl ?_
                      refine iv_iald (M := mX12_laysCheap) (X := y5.toInt) (l1 := 0) (l2 := 25) dX12_laysCheap_88 (tl149 hT) rfl (by omega) (by omega) I28 (fun _ => rfl) 89 rfl (fun v172 ev172 pv172 qv172 => ?_)
                      have k89 : v172 = m 149 y5.toInt.toNat := ev172.trans (K29 149 _ rfl)
                      have k89i := congrArg Int32.toInt k89
                      refine pv_aload_n (M := mX12_laysCheap) 0 dX12_laysCheap_89 90 rfl rfl rfl ?_
                      refine mv_get (M := mX12_laysCheap) (v := .ref 150) dX12_laysCheap_90 FX12 43 wd1216 (by decide) (tl123 hT) rfl rfl 93 rfl ?_
                      refine pv_iload_n (M := mX12_laysCheap) 2 dX12_laysCheap_93 94 rfl rfl rfl ?_
                      refine iv_iald (M := mX12_laysCheap) (X := y25.toInt) (l1 := 0) (l2 := 25) dX12_laysCheap_94 (tl150 hT) rfl (by omega) (by omega) I28 (fun _ => rfl) 95 rfl (fun v175 ev175 pv175 qv175 => ?_)
                      have k95 : v175 = m 150 y25.toInt.toNat := ev175.trans (K29 150 _ rfl)
                      have k95i := congrArg Int32.toInt k95
                      refine pv_icmp_ne (M := mX12_laysCheap) (tgt := 133) dX12_laysCheap_95 98 rfl (by decide) (fun c178 => ?_) (fun c178 => ?_)
                      · have c178 := iv_ne (X := v172.toInt) (Y := v175.toInt) c178 rfl rfl
                        have kV : ((1000000000 : Int32)).toInt = enc 1000000000 (ctv (m 149) (m 150) (cRl m) (m 123 40).toInt.toNat (m 123 41).toInt.toNat ((m 123 40).toInt.toNat - y5.toInt.toNat) y25.toInt.toNat) := by first | (exfalso; omega) | (rw [show (m 123 40).toInt.toNat - y5.toInt.toNat = 0 by omega]; exact k66z) | (rw [show (m 123 40).toInt.toNat - y5.toInt.toNat = ((m 123 40).toInt.toNat - (y5.toInt.toNat + 1)) + 1 by omega]; refine enc_minr (x := if y25.toInt.toNat < (m 123 41).toInt.toNat ∧ m 149 ((m 123 40).toInt.toNat - (((m 123 40).toInt.toNat - (y5.toInt.toNat + 1)) + 1)) = m 150 y25.toInt.toNat then ctv (m 149) (m 150) (cRl m) (m 123 40).toInt.toNat (m 123 41).toInt.toNat ((m 123 40).toInt.toNat - (y5.toInt.toNat + 1)) (y25.toInt.toNat + 1) else none) (y := plO (cRl m ((m 123 40).toInt.toNat - (((m 123 40).toInt.toNat - (y5.toInt.toNat + 1)) + 1))) (ctv (m 149) (m 150) (cRl m) (m 123 40).toInt.toNat (m 123 41).toInt.toNat ((m 123 40).toInt.toNat - (y5.toInt.toNat + 1)) y25.toInt.toNat)) rfl (b := enc 1000000000 (plO (cRl m y5.toInt.toNat) (ctv (m 149) (m 150) (cRl m) (m 123 40).toInt.toNat (m 123 41).toInt.toNat ((m 123 40).toInt.toNat - (y5.toInt.toNat + 1)) y25.toInt.toNat))) (by rw [show (m 123 40).toInt.toNat - (((m 123 40).toInt.toNat - (y5.toInt.toNat + 1)) + 1) = y5.toInt.toNat by omega]) (fun w z => by split at z; (have y := ctv_b kCB _ (by omega) _ w z; omega); (cases z)) (fun w z => by obtain ⟨a, b, z1, z2, z3⟩ := plO_some z; have y1 := ctv_b kCB _ (by omega) _ b z2; have y2 := kCB _ (by omega) a z1; omega) ?_; rw [show (m 123 40).toInt.toNat - (((m 123 40).toInt.toNat - (y5.toInt.toNat + 1)) + 1) = y5.toInt.toNat by omega, ← k66]; first | (rw [if_pos ⟨by omega, by rw [← k89, ← k95]; exact i_eq (by omega)⟩, ← k113]; omega) | (rw [if_neg (fun q => by have q1 := q.1; omega)]; exact Or.inr ⟨by omega, by show _ ≤ (1000000000 : Int); omega⟩) | (rw [if_neg (fun q => by have q2 := congrArg Int32.toInt q.2; rw [← k89, ← k95] at q2; omega)]; exact Or.inr ⟨by omega, by show _ ≤ (1000000000 : Int); omega⟩))
                        refine pv_aload_n (M := mX12_laysCheap) 0 dX12_laysCheap_133 134 rfl rfl rfl ?_
                        refine mv_get (M := mX12_laysCheap) (v := .ref 153) dX12_laysCheap_134 FX12 46 wd1219 (by decide) (tl123 hT) rfl rfl 137 rfl ?_
                        refine pv_bipush (M := mX12_laysCheap) (v := 17) dX12_laysCheap_137 139 rfl (by decide) ?_
                        refine pv_iload_n (M := mX12_laysCheap) 1 dX12_laysCheap_139 140 rfl rfl rfl ?_
                        refine iv_imul (M := mX12_laysCheap) (X := 17) (Y := y5.toInt) dX12_laysCheap_140 141 rfl (by decide) rfl (by omega) (by omega) (fun v180 ev180 => ?_)
                        refine pv_iload_n (M := mX12_laysCheap) 2 dX12_laysCheap_141 142 rfl rfl rfl ?_
                        refine iv_iadd (M := mX12_laysCheap) (X := v180.toInt) (Y := y25.toInt) dX12_laysCheap_142 143 rfl rfl rfl (by omega) (by omega) (fun v181 ev181 => ?_)
                        refine pv_iload_n (M := mX12_laysCheap) 3 dX12_laysCheap_143 144 rfl rfl rfl ?_
                        refine iv_iast (M := mX12_laysCheap) (X := v181.toInt) (l1 := 0) (l2 := 1999999998) dX12_laysCheap_144 (tl153 hT) rfl (by omega) (by omega) I28 (fun _ => rfl) (by decide) (by decide) 145 rfl (fun m182 e185 I183 => ?_)
                        have K184 := K29.set e185 rfl
                        have w186 : (m182 123 40).toInt = (m26 123 40).toInt := by rw [e185, up2_ne (by omega)]
                        have w187 : (m182 123 41).toInt = (m26 123 41).toInt := by rw [e185, up2_ne (by omega)]
                        refine iv_inc (M := mX12_laysCheap) (C := (-1)) dX12_laysCheap_145 148 rfl rfl (by decide) rfl rfl (by decide) (by omega) (by omega) (fun v188 ev188 => ?_)
                        show PV _ _ _ _ _ _ _ 148 [.ref 123, .int y5, .int v188, .int 1000000000] [] _
                        refine pv_goto (M := mX12_laysCheap) (tgt := 14) dX12_laysCheap_148 (by decide) ?_
                        refine pv_fg (lo2 := [.ref 123, .int y5, .int v188, pv_U]) ⟨Or.inr rfl, ⟨Or.inr rfl, ⟨Or.inr rfl, ⟨Or.inl rfl, trivial⟩⟩⟩⟩ ?_
                        have kb14 : TRt m182 (m 149) (m 150) (cRl m) (m 123 40).toInt.toNat (m 123 41).toInt.toNat y5.toInt v188.toInt := TRt_s kg14 (by omega) (by omega) (by omega) (by omega) e185 (by omega) kV (by omega)
                        exact ih32 v188 m182 n27 (by first | omega | assumption | exact (iv_rng _).2 | exact (iv_rng _).1 | decide) (by first | omega | assumption | exact (iv_rng _).2 | exact (iv_rng _).1 | decide) (by first | omega | assumption | (show y5.toInt ≤ (m 123 40).toInt; omega) | decide) (by first | omega | assumption | (show v188.toInt ≤ (m 123 41).toInt; omega) | decide) kb14 I183 K184 (by omega)
                      · have c178 := iv_eq (X := v172.toInt) (Y := v175.toInt) c178 rfl rfl
                        refine pv_aload_n (M := mX12_laysCheap) 0 dX12_laysCheap_98 99 rfl rfl rfl ?_
                        refine mv_get (M := mX12_laysCheap) (v := .ref 153) dX12_laysCheap_99 FX12 46 wd1219 (by decide) (tl123 hT) rfl rfl 102 rfl ?_
                        refine pv_bipush (M := mX12_laysCheap) (v := 17) dX12_laysCheap_102 104 rfl (by decide) ?_
                        refine pv_iload_n (M := mX12_laysCheap) 1 dX12_laysCheap_104 105 rfl rfl rfl ?_
                        refine pv_iconst (M := mX12_laysCheap) (v := 1) dX12_laysCheap_105 106 rfl (by decide) ?_
                        refine iv_iadd (M := mX12_laysCheap) (X := y5.toInt) (Y := 1) dX12_laysCheap_106 107 rfl rfl (by decide) (by omega) (by omega) (fun v190 ev190 => ?_)
                        refine iv_imul (M := mX12_laysCheap) (X := 17) (Y := v190.toInt) dX12_laysCheap_107 108 rfl (by decide) rfl (by omega) (by omega) (fun v191 ev191 => ?_)
                        refine pv_iload_n (M := mX12_laysCheap) 2 dX12_laysCheap_108 109 rfl rfl rfl ?_
                        refine iv_iadd (M := mX12_laysCheap) (X := v191.toInt) (Y := y25.toInt) dX12_laysCheap_109 110 rfl rfl rfl (by omega) (by omega) (fun v192 ev192 => ?_)
                        refine pv_iconst (M := mX12_laysCheap) (v := 1) dX12_laysCheap_110 111 rfl (by decide) ?_
                        refine iv_iadd (M := mX12_laysCheap) (X := v192.toInt) (Y := 1) dX12_laysCheap_111 112 rfl rfl (by decide) (by omega) (by omega) (fun v193 ev193 => ?_)
                        refine iv_iald (M := mX12_laysCheap) (X := v193.toInt) (l1 := 0) (l2 := 1999999998) dX12_laysCheap_112 (tl153 hT) rfl (by omega) (by omega) I28 (fun _ => rfl) 113 rfl (fun v194 ev194 pv194 qv194 => ?_)
                        have k113 : v194.toInt = enc 1000000000 (ctv (m 149) (m 150) (cRl m) (m 123 40).toInt.toNat (m 123 41).toInt.toNat ((m 123 40).toInt.toNat - (y5.toInt.toNat + 1)) (y25.toInt.toNat + 1)) := by rw [ev194]; have q := kg14 (y5.toInt.toNat + 1) (y25.toInt.toNat + 1) (by omega) (by omega) (by omega); rw [← q]; congr 2; omega
                        refine pv_iload_n (M := mX12_laysCheap) 3 dX12_laysCheap_113 114 rfl rfl rfl ?_
                        refine pv_icmp_ge (M := mX12_laysCheap) (tgt := 133) dX12_laysCheap_114 117 rfl (by decide) (fun c196 => ?_) (fun c196 => ?_)
                        · have c196 := iv_le (X := 1000000000) (Y := v194.toInt) c196 (by decide) rfl
                          have kV : ((1000000000 : Int32)).toInt = enc 1000000000 (ctv (m 149) (m 150) (cRl m) (m 123 40).toInt.toNat (m 123 41).toInt.toNat ((m 123 40).toInt.toNat - y5.toInt.toNat) y25.toInt.toNat) := by first | (exfalso; omega) | (rw [show (m 123 40).toInt.toNat - y5.toInt.toNat = 0 by omega]; exact k66z) | (rw [show (m 123 40).toInt.toNat - y5.toInt.toNat = ((m 123 40).toInt.toNat - (y5.toInt.toNat + 1)) + 1 by omega]; refine enc_minr (x := if y25.toInt.toNat < (m 123 41).toInt.toNat ∧ m 149 ((m 123 40).toInt.toNat - (((m 123 40).toInt.toNat - (y5.toInt.toNat + 1)) + 1)) = m 150 y25.toInt.toNat then ctv (m 149) (m 150) (cRl m) (m 123 40).toInt.toNat (m 123 41).toInt.toNat ((m 123 40).toInt.toNat - (y5.toInt.toNat + 1)) (y25.toInt.toNat + 1) else none) (y := plO (cRl m ((m 123 40).toInt.toNat - (((m 123 40).toInt.toNat - (y5.toInt.toNat + 1)) + 1))) (ctv (m 149) (m 150) (cRl m) (m 123 40).toInt.toNat (m 123 41).toInt.toNat ((m 123 40).toInt.toNat - (y5.toInt.toNat + 1)) y25.toInt.toNat)) rfl (b := enc 1000000000 (plO (cRl m y5.toInt.toNat) (ctv (m 149) (m 150) (cRl m) (m 123 40).toInt.toNat (m 123 41).toInt.toNat ((m 123 40).toInt.toNat - (y5.toInt.toNat + 1)) y25.toInt.toNat))) (by rw [show (m 123 40).toInt.toNat - (((m 123 40).toInt.toNat - (y5.toInt.toNat + 1)) + 1) = y5.toInt.toNat by omega]) (fun w z => by split at z; (have y := ctv_b kCB _ (by omega) _ w z; omega); (cases z)) (fun w z => by obtain ⟨a, b, z1, z2, z3⟩ := plO_some z; have y1 := ctv_b kCB _ (by omega) _ b z2; have y2 := kCB _ (by omega) a z1; omega) ?_; rw [show (m 123 40).toInt.toNat - (((m 123 40).toInt.toNat - (y5.toInt.toNat + 1)) + 1) = y5.toInt.toNat by omega, ← k66]; first | (rw [if_pos ⟨by omega, by rw [← k89, ← k95]; exact i_eq (by omega)⟩, ← k113]; omega) | (rw [if_neg (fun q => by have q1 := q.1; omega)]; exact Or.inr ⟨by omega, by show _ ≤ (1000000000 : Int); omega⟩) | (rw [if_neg (fun q => by have q2 := congrArg Int32.toInt q.2; rw [← k89, ← k95] at q2; omega)]; exact Or.inr ⟨by omega, by show _ ≤ (1000000000 : Int); omega⟩))
                          refine pv_aload_n (M := mX12_laysCheap) 0 dX12_laysCheap_133 134 rfl rfl rfl ?_
                          refine mv_get (M := mX12_laysCheap) (v := .ref 153) dX12_laysCheap_134 FX12 46 wd1219 (by decide) (tl123 hT) rfl rfl 137 rfl ?_
                          refine pv_bipush (M := mX12_laysCheap) (v := 17) dX12_laysCheap_137 139 rfl (by decide) ?_
                          refine pv_iload_n (M := mX12_laysCheap) 1 dX12_laysCheap_139 140 rfl rfl rfl ?_
                          refine iv_imul (M := mX12_laysCheap) (X := 17) (Y := y5.toInt) dX12_laysCheap_140 141 rfl (by decide) rfl (by omega) (by omega) (fun v198 ev198 => ?_)
                          refine pv_iload_n (M := mX12_laysCheap) 2 dX12_laysCheap_141 142 rfl rfl rfl ?_
                          refine iv_iadd (M := mX12_laysCheap) (X := v198.toInt) (Y := y25.toInt) dX12_laysCheap_142 143 rfl rfl rfl (by omega) (by omega) (fun v199 ev199 => ?_)
                          refine pv_iload_n (M := mX12_laysCheap) 3 dX12_laysCheap_143 144 rfl rfl rfl ?_
                          refine iv_iast (M := mX12_laysCheap) (X := v199.toInt) (l1 := 0) (l2 := 1999999998) dX12_laysCheap_144 (tl153 hT) rfl (by omega) (by omega) I28 (fun _ => rfl) (by decide) (by decide) 145 rfl (fun m200 e203 I201 => ?_)
                          have K202 := K29.set e203 rfl
                          have w204 : (m200 123 40).toInt = (m26 123 40).toInt := by rw [e203, up2_ne (by omega)]
                          have w205 : (m200 123 41).toInt = (m26 123 41).toInt := by rw [e203, up2_ne (by omega)]
                          refine iv_inc (M := mX12_laysCheap) (C := (-1)) dX12_laysCheap_145 148 rfl rfl (by decide) rfl rfl (by decide) (by omega) (by omega) (fun v206 ev206 => ?_)
                          show PV _ _ _ _ _ _ _ 148 [.ref 123, .int y5, .int v206, .int 1000000000] [] _
                          refine pv_goto (M := mX12_laysCheap) (tgt := 14) dX12_laysCheap_148 (by decide) ?_
                          refine pv_fg (lo2 := [.ref 123, .int y5, .int v206, pv_U]) ⟨Or.inr rfl, ⟨Or.inr rfl, ⟨Or.inr rfl, ⟨Or.inl rfl, trivial⟩⟩⟩⟩ ?_
                          have kb14 : TRt m200 (m 149) (m 150) (cRl m) (m 123 40).toInt.toNat (m 123 41).toInt.toNat y5.toInt v206.toInt := TRt_s kg14 (by omega) (by omega) (by omega) (by omega) e203 (by omega) kV (by omega)
                          exact ih32 v206 m200 n27 (by first | omega | assumption | exact (iv_rng _).2 | exact (iv_rng _).1 | decide) (by first | omega | assumption | exact (iv_rng _).2 | exact (iv_rng _).1 | decide) (by first | omega | assumption | (show y5.toInt ≤ (m 123 40).toInt; omega) | decide) (by first | omega | assumption | (show v206.toInt ≤ (m 123 41).toInt; omega) | decide) kb14 I201 K202 (by omega)
                        · have c196 := iv_nle (X := 1000000000) (Y := v194.toInt) c196 (by decide) rfl
                          refine pv_aload_n (M := mX12_laysCheap) 0 dX12_laysCheap_117 118 rfl rfl rfl ?_
                          refine mv_get (M := mX12_laysCheap) (v := .ref 153) dX12_laysCheap_118 FX12 46 wd1219 (by decide) (tl123 hT) rfl rfl 121 rfl ?_
                          refine pv_bipush (M := mX12_laysCheap) (v := 17) dX12_laysCheap_121 123 rfl (by decide) ?_
                          refine pv_iload_n (M := mX12_laysCheap) 1 dX12_laysCheap_123 124 rfl rfl rfl ?_
                          refine pv_iconst (M := mX12_laysCheap) (v := 1) dX12_laysCheap_124 125 rfl (by decide) ?_
                          refine iv_iadd (M := mX12_laysCheap) (X := y5.toInt) (Y := 1) dX12_laysCheap_125 126 rfl rfl (by decide) (by omega) (by omega) (fun v208 ev208 => ?_)
                          refine iv_imul (M := mX12_laysCheap) (X := 17) (Y := v208.toInt) dX12_laysCheap_126 127 rfl (by decide) rfl (by omega) (by omega) (fun v209 ev209 => ?_)
                          refine pv_iload_n (M := mX12_laysCheap) 2 dX12_laysCheap_127 128 rfl rfl rfl ?_
                          refine iv_iadd (M := mX12_laysCheap) (X := v209.toInt) (Y := y25.toInt) dX12_laysCheap_128 129 rfl rfl rfl (by omega) (by omega) (fun v210 ev210 => ?_)
                          refine pv_iconst (M := mX12_laysCheap) (v := 1) dX12_laysCheap_129 130 rfl (by decide) ?_
                          refine iv_iadd (M := mX12_laysCheap) (X := v210.toInt) (Y := 1) dX12_laysCheap_130 131 rfl rfl (by decide) (by omega) (by omega) (fun v211 ev211 => ?_)
                          refine iv_iald (M := mX12_laysCheap) (X := v211.toInt) (l1 := 0) (l2 := 1999999998) dX12_laysCheap_131 (tl153 hT) rfl (by omega) (by omega) I28 (fun _ => rfl) 132 rfl (fun v212 ev212 pv212 qv212 => ?_)
                          have k132 : v212.toInt = enc 1000000000 (ctv (m 149) (m 150) (cRl m) (m 123 40).toInt.toNat (m 123 41).toInt.toNat ((m 123 40).toInt.toNat - (y5.toInt.toNat + 1)) (y25.toInt.toNat + 1)) := by rw [ev212]; have q := kg14 (y5.toInt.toNat + 1) (y25.toInt.toNat + 1) (by omega) (by omega) (by omega); rw [← q]; congr 2; omega
                          refine pv_istore_n (M := mX12_laysCheap) 3 (lo2 := [.ref 123, .int y5, .int y25, .int v212]) dX12_laysCheap_132 133 rfl rfl (by decide) rfl rfl ?_
                          have kV : (v212).toInt = enc 1000000000 (ctv (m 149) (m 150) (cRl m) (m 123 40).toInt.toNat (m 123 41).toInt.toNat ((m 123 40).toInt.toNat - y5.toInt.toNat) y25.toInt.toNat) := by first | (exfalso; omega) | (rw [show (m 123 40).toInt.toNat - y5.toInt.toNat = 0 by omega]; exact k66z) | (rw [show (m 123 40).toInt.toNat - y5.toInt.toNat = ((m 123 40).toInt.toNat - (y5.toInt.toNat + 1)) + 1 by omega]; refine enc_minr (x := if y25.toInt.toNat < (m 123 41).toInt.toNat ∧ m 149 ((m 123 40).toInt.toNat - (((m 123 40).toInt.toNat - (y5.toInt.toNat + 1)) + 1)) = m 150 y25.toInt.toNat then ctv (m 149) (m 150) (cRl m) (m 123 40).toInt.toNat (m 123 41).toInt.toNat ((m 123 40).toInt.toNat - (y5.toInt.toNat + 1)) (y25.toInt.toNat + 1) else none) (y := plO (cRl m ((m 123 40).toInt.toNat - (((m 123 40).toInt.toNat - (y5.toInt.toNat + 1)) + 1))) (ctv (m 149) (m 150) (cRl m) (m 123 40).toInt.toNat (m 123 41).toInt.toNat ((m 123 40).toInt.toNat - (y5.toInt.toNat + 1)) y25.toInt.toNat)) rfl (b := enc 1000000000 (plO (cRl m y5.toInt.toNat) (ctv (m 149) (m 150) (cRl m) (m 123 40).toInt.toNat (m 123 41).toInt.toNat ((m 123 40).toInt.toNat - (y5.toInt.toNat + 1)) y25.toInt.toNat))) (by rw [show (m 123 40).toInt.toNat - (((m 123 40).toInt.toNat - (y5.toInt.toNat + 1)) + 1) = y5.toInt.toNat by omega]) (fun w z => by split at z; (have y := ctv_b kCB _ (by omega) _ w z; omega); (cases z)) (fun w z => by obtain ⟨a, b, z1, z2, z3⟩ := plO_some z; have y1 := ctv_b kCB _ (by omega) _ b z2; have y2 := kCB _ (by omega) a z1; omega) ?_; rw [show (m 123 40).toInt.toNat - (((m 123 40).toInt.toNat - (y5.toInt.toNat + 1)) + 1) = y5.toInt.toNat by omega, ← k66]; first | (rw [if_pos ⟨by omega, by rw [← k89, ← k95]; exact i_eq (by omega)⟩, ← k113]; omega) | (rw [if_neg (fun q => by have q1 := q.1; omega)]; exact Or.inr ⟨by omega, by show _ ≤ (1000000000 : Int); omega⟩) | (rw [if_neg (fun q => by have q2 := congrArg Int32.toInt q.2; rw [← k89, ← k95] at q2; omega)]; exact Or.inr ⟨by omega, by show _ ≤ (1000000000 : Int); omega⟩))
                          refine pv_aload_n (M := mX12_laysCheap) 0 dX12_laysCheap_133 134 rfl rfl rfl ?_
                          refine mv_get (M := mX12_laysCheap) (v := .ref 153) dX12_laysCheap_134 FX12 46 wd1219 (by decide) (tl123 hT) rfl rfl 137 rfl ?_
                          refine pv_bipush (M := mX12_laysCheap) (v := 17) dX12_laysCheap_137 139 rfl (by decide) ?_
                          refine pv_iload_n (M := mX12_laysCheap) 1 dX12_laysCheap_139 140 rfl rfl rfl ?_
                          refine iv_imul (M := mX12_laysCheap) (X := 17) (Y := y5.toInt) dX12_laysCheap_140 141 rfl (by decide) rfl (by omega) (by omega) (fun v215 ev215 => ?_)
                          refine pv_iload_n (M := mX12_laysCheap) 2 dX12_laysCheap_141 142 rfl rfl rfl ?_
                          refine iv_iadd (M := mX12_laysCheap) (X := v215.toInt) (Y := y25.toInt) dX12_laysCheap_142 143 rfl rfl rfl (by omega) (by omega) (fun v216 ev216 => ?_)
                          refine pv_iload_n (M := mX12_laysCheap) 3 dX12_laysCheap_143 144 rfl rfl rfl ?_
                          refine iv_iast (M := mX12_laysCheap) (X := v216.toInt) (l1 := 0) (l2 := 1999999998) dX12_laysCheap_144 (tl153 hT) rfl (by omega) (by omega) I28 (fun _ => rfl) (by omega) (by omega) 145 rfl (fun m217 e220 I218 => ?_)
                          have K219 := K29.set e220 rfl
                          have w221 : (m217 123 40).toInt = (m26 123 40).toInt := by rw [e220, up2_ne (by omega)]
                          have w222 : (m217 123 41).toInt = (m26 123 41).toInt := by rw [e220, up2_ne (by omega)]
                          refine iv_inc (M := mX12_laysCheap) (C := (-1)) dX12_laysCheap_145 148 rfl rfl (by decide) rfl rfl (by decide) (by omega) (by omega) (fun v223 ev223 => ?_)
                          show PV _ _ _ _ _ _ _ 148 [.ref 123, .int y5, .int v223, .int v212] [] _
                          refine pv_goto (M := mX12_laysCheap) (tgt := 14) dX12_laysCheap_148 (by decide) ?_
                          refine pv_fg (lo2 := [.ref 123, .int y5, .int v223, pv_U]) ⟨Or.inr rfl, ⟨Or.inr rfl, ⟨Or.inr rfl, ⟨Or.inl rfl, trivial⟩⟩⟩⟩ ?_
                          have kb14 : TRt m217 (m 149) (m 150) (cRl m) (m 123 40).toInt.toNat (m 123 41).toInt.toNat y5.toInt v223.toInt := TRt_s kg14 (by omega) (by omega) (by omega) (by omega) e220 (by omega) kV (by omega)
                          exact ih32 v223 m217 n27 (by first | omega | assumption | exact (iv_rng _).2 | exact (iv_rng _).1 | decide) (by first | omega | assumption | exact (iv_rng _).2 | exact (iv_rng _).1 | decide) (by first | omega | assumption | (show y5.toInt ≤ (m 123 40).toInt; omega) | decide) (by first | omega | assumption | (show v223.toInt ≤ (m 123 41).toInt; omega) | decide) kb14 I218 K219 (by omega)
                · have c142 := iv_eq (X := y25.toInt) (Y := v141.toInt) c142 rfl rfl
                  refine pv_iconst (M := mX12_laysCheap) (v := 0) dX12_laysCheap_34 35 rfl (by decide) ?_
                  refine pv_goto (M := mX12_laysCheap) (tgt := 66) dX12_laysCheap_35 (by decide) ?_
                  try have k66 := enc_sum k63a k63b (fun w z => kCB _ (by omega) w z) (fun w z => by have y := ctv_b kCB _ (by omega) _ w z; omega) rlit
                  try have k66b := enc_le k66 (fun w z => by obtain ⟨a, b, z1, z2, z3⟩ := plO_some z; have y1 := ctv_b kCB _ (by omega) _ b z2; have y2 := kCB _ (by omega) a z1; omega)
                  try have k66z : 0 = enc 1000000000 (if y25.toInt.toNat = (m 123 41).toInt.toNat then some 0 else none) := by first | (rw [if_pos (by omega)]; rfl) | (rw [if_neg (by omega)]; rfl)
                  refine pv_istore_n (M := mX12_laysCheap) 3 (lo2 := [.ref 123, .int y5, .int y25, .int 0]) dX12_laysCheap_66 67 rfl rfl (by decide) rfl rfl ?_
                  refine pv_iload_n (M := mX12_laysCheap) 1 dX12_laysCheap_67 68 rfl rfl rfl ?_
                  refine pv_aload_n (M := mX12_laysCheap) 0 dX12_laysCheap_68 69 rfl rfl rfl ?_
                  refine iv_get (M := mX12_laysCheap) (l1 := 0) (l2 := 40) dX12_laysCheap_69 FX12 40 wd1213 (by decide) (tl123 hT) rfl I28 rfl 72 rfl (fun v228 ev228 pv228 qv228 => ?_)
                  have wv228 : v228.toInt = (m26 123 40).toInt := congrArg Int32.toInt ev228
                  refine pv_icmp_ge (M := mX12_laysCheap) (tgt := 133) dX12_laysCheap_72 75 rfl (by decide) (fun c229 => ?_) (fun c229 => ?_)
                  · have c229 := iv_le (X := v228.toInt) (Y := y5.toInt) c229 rfl rfl
                    have kV : ((0 : Int32)).toInt = enc 1000000000 (ctv (m 149) (m 150) (cRl m) (m 123 40).toInt.toNat (m 123 41).toInt.toNat ((m 123 40).toInt.toNat - y5.toInt.toNat) y25.toInt.toNat) := by first | (exfalso; omega) | (rw [show (m 123 40).toInt.toNat - y5.toInt.toNat = 0 by omega]; exact k66z) | (rw [show (m 123 40).toInt.toNat - y5.toInt.toNat = ((m 123 40).toInt.toNat - (y5.toInt.toNat + 1)) + 1 by omega]; refine enc_minr (x := if y25.toInt.toNat < (m 123 41).toInt.toNat ∧ m 149 ((m 123 40).toInt.toNat - (((m 123 40).toInt.toNat - (y5.toInt.toNat + 1)) + 1)) = m 150 y25.toInt.toNat then ctv (m 149) (m 150) (cRl m) (m 123 40).toInt.toNat (m 123 41).toInt.toNat ((m 123 40).toInt.toNat - (y5.toInt.toNat + 1)) (y25.toInt.toNat + 1) else none) (y := plO (cRl m ((m 123 40).toInt.toNat - (((m 123 40).toInt.toNat - (y5.toInt.toNat + 1)) + 1))) (ctv (m 149) (m 150) (cRl m) (m 123 40).toInt.toNat (m 123 41).toInt.toNat ((m 123 40).toInt.toNat - (y5.toInt.toNat + 1)) y25.toInt.toNat)) rfl (b := enc 1000000000 (plO (cRl m y5.toInt.toNat) (ctv (m 149) (m 150) (cRl m) (m 123 40).toInt.toNat (m 123 41).toInt.toNat ((m 123 40).toInt.toNat - (y5.toInt.toNat + 1)) y25.toInt.toNat))) (by rw [show (m 123 40).toInt.toNat - (((m 123 40).toInt.toNat - (y5.toInt.toNat + 1)) + 1) = y5.toInt.toNat by omega]) (fun w z => by split at z; (have y := ctv_b kCB _ (by omega) _ w z; omega); (cases z)) (fun w z => by obtain ⟨a, b, z1, z2, z3⟩ := plO_some z; have y1 := ctv_b kCB _ (by omega) _ b z2; have y2 := kCB _ (by omega) a z1; omega) ?_; rw [show (m 123 40).toInt.toNat - (((m 123 40).toInt.toNat - (y5.toInt.toNat + 1)) + 1) = y5.toInt.toNat by omega, ← k66]; first | (rw [if_pos ⟨by omega, by rw [← k89, ← k95]; exact i_eq (by omega)⟩, ← k113]; omega) | (rw [if_neg (fun q => by have q1 := q.1; omega)]; exact Or.inr ⟨by omega, by show _ ≤ (1000000000 : Int); omega⟩) | (rw [if_neg (fun q => by have q2 := congrArg Int32.toInt q.2; rw [← k89, ← k95] at q2; omega)]; exact Or.inr ⟨by omega, by show _ ≤ (1000000000 : Int); omega⟩))
                    refine pv_aload_n (M := mX12_laysCheap) 0 dX12_laysCheap_133 134 rfl rfl rfl ?_
                    refine mv_get (M := mX12_laysCheap) (v := .ref 153) dX12_laysCheap_134 FX12 46 wd1219 (by decide) (tl123 hT) rfl rfl 137 rfl ?_
                    refine pv_bipush (M := mX12_laysCheap) (v := 17) dX12_laysCheap_137 139 rfl (by decide) ?_
                    refine pv_iload_n (M := mX12_laysCheap) 1 dX12_laysCheap_139 140 rfl rfl rfl ?_
                    refine iv_imul (M := mX12_laysCheap) (X := 17) (Y := y5.toInt) dX12_laysCheap_140 141 rfl (by decide) rfl (by omega) (by omega) (fun v231 ev231 => ?_)
                    refine pv_iload_n (M := mX12_laysCheap) 2 dX12_laysCheap_141 142 rfl rfl rfl ?_
                    refine iv_iadd (M := mX12_laysCheap) (X := v231.toInt) (Y := y25.toInt) dX12_laysCheap_142 143 rfl rfl rfl (by omega) (by omega) (fun v232 ev232 => ?_)
                    refine pv_iload_n (M := mX12_laysCheap) 3 dX12_laysCheap_143 144 rfl rfl rfl ?_
                    refine iv_iast (M := mX12_laysCheap) (X := v232.toInt) (l1 := 0) (l2 := 1999999998) dX12_laysCheap_144 (tl153 hT) rfl (by omega) (by omega) I28 (fun _ => rfl) (by decide) (by decide) 145 rfl (fun m233 e236 I234 => ?_)
                    have K235 := K29.set e236 rfl
                    have w237 : (m233 123 40).toInt = (m26 123 40).toInt := by rw [e236, up2_ne (by omega)]
                    have w238 : (m233 123 41).toInt = (m26 123 41).toInt := by rw [e236, up2_ne (by omega)]
                    refine iv_inc (M := mX12_laysCheap) (C := (-1)) dX12_laysCheap_145 148 rfl rfl (by decide) rfl rfl (by decide) (by omega) (by omega) (fun v239 ev239 => ?_)
                    show PV _ _ _ _ _ _ _ 148 [.ref 123, .int y5, .int v239, .int 0] [] _
                    refine pv_goto (M := mX12_laysCheap) (tgt := 14) dX12_laysCheap_148 (by decide) ?_
                    refine pv_fg (lo2 := [.ref 123, .int y5, .int v239, pv_U]) ⟨Or.inr rfl, ⟨Or.inr rfl, ⟨Or.inr rfl, ⟨Or.inl rfl, trivial⟩⟩⟩⟩ ?_
                    have kb14 : TRt m233 (m 149) (m 150) (cRl m) (m 123 40).toInt.toNat (m 123 41).toInt.toNat y5.toInt v239.toInt := TRt_s kg14 (by omega) (by omega) (by omega) (by omega) e236 (by omega) kV (by omega)
                    exact ih32 v239 m233 n27 (by first | omega | assumption | exact (iv_rng _).2 | exact (iv_rng _).1 | decide) (by first | omega | assumption | exact (iv_rng _).2 | exact (iv_rng _).1 | decide) (by first | omega | assumption | (show y5.toInt ≤ (m 123 40).toInt; omega) | decide) (by first | omega | assumption | (show v239.toInt ≤ (m 123 41).toInt; omega) | decide) kb14 I234 K235 (by omega)
                  · have c229 := iv_nle (X := v228.toInt) (Y := y5.toInt) c229 rfl rfl
                    refine pv_iload_n (M := mX12_laysCheap) 2 dX12_laysCheap_75 76 rfl rfl rfl ?_
                    refine pv_aload_n (M := mX12_laysCheap) 0 dX12_laysCheap_76 77 rfl rfl rfl ?_
                    refine iv_get (M := mX12_laysCheap) (l1 := 0) (l2 := 16) dX12_laysCheap_77 FX12 41 wd1214 (by decide) (tl123 hT) rfl I28 rfl 80 rfl (fun v241 ev241 pv241 qv241 => ?_)
                    have wv241 : v241.toInt = (m26 123 41).toInt := congrArg Int32.toInt ev241
                    refine pv_icmp_ge (M := mX12_laysCheap) (tgt := 133) dX12_laysCheap_80 83 rfl (by decide) (fun c242 => ?_) (fun c242 => ?_)
                    · have c242 := iv_le (X := v241.toInt) (Y := y25.toInt) c242 rfl rfl
                      have kV : ((0 : Int32)).toInt = enc 1000000000 (ctv (m 149) (m 150) (cRl m) (m 123 40).toInt.toNat (m 123 41).toInt.toNat ((m 123 40).toInt.toNat - y5.toInt.toNat) y25.toInt.toNat) := by first | (exfalso; omega) | (rw [show (m 123 40).toInt.toNat - y5.toInt.toNat = 0 by omega]; exact k66z) | (rw [show (m 123 40).toInt.toNat - y5.toInt.toNat = ((m 123 40).toInt.toNat - (y5.toInt.toNat + 1)) + 1 by omega]; refine enc_minr (x := if y25.toInt.toNat < (m 123 41).toInt.toNat ∧ m 149 ((m 123 40).toInt.toNat - (((m 123 40).toInt.toNat - (y5.toInt.toNat + 1)) + 1)) = m 150 y25.toInt.toNat then ctv (m 149) (m 150) (cRl m) (m 123 40).toInt.toNat (m 123 41).toInt.toNat ((m 123 40).toInt.toNat - (y5.toInt.toNat + 1)) (y25.toInt.toNat + 1) else none) (y := plO (cRl m ((m 123 40).toInt.toNat - (((m 123 40).toInt.toNat - (y5.toInt.toNat + 1)) + 1))) (ctv (m 149) (m 150) (cRl m) (m 123 40).toInt.toNat (m 123 41).toInt.toNat ((m 123 40).toInt.toNat - (y5.toInt.toNat + 1)) y25.toInt.toNat)) rfl (b := enc 1000000000 (plO (cRl m y5.toInt.toNat) (ctv (m 149) (m 150) (cRl m) (m 123 40).toInt.toNat (m 123 41).toInt.toNat ((m 123 40).toInt.toNat - (y5.toInt.toNat + 1)) y25.toInt.toNat))) (by rw [show (m 123 40).toInt.toNat - (((m 123 40).toInt.toNat - (y5.toInt.toNat + 1)) + 1) = y5.toInt.toNat by omega]) (fun w z => by split at z; (have y := ctv_b kCB _ (by omega) _ w z; omega); (cases z)) (fun w z => by obtain ⟨a, b, z1, z2, z3⟩ := plO_some z; have y1 := ctv_b kCB _ (by omega) _ b z2; have y2 := kCB _ (by omega) a z1; omega) ?_; rw [show (m 123 40).toInt.toNat - (((m 123 40).toInt.toNat - (y5.toInt.toNat + 1)) + 1) = y5.toInt.toNat by omega, ← k66]; first | (rw [if_pos ⟨by omega, by rw [← k89, ← k95]; exact i_eq (by omega)⟩, ← k113]; omega) | (rw [if_neg (fun q => by have q1 := q.1; omega)]; exact Or.inr ⟨by omega, by show _ ≤ (1000000000 : Int); omega⟩) | (rw [if_neg (fun q => by have q2 := congrArg Int32.toInt q.2; rw [← k89, ← k95] at q2; omega)]; exact Or.inr ⟨by omega, by show _ ≤ (1000000000 : Int); omega⟩))
                      refine pv_aload_n (M := mX12_laysCheap) 0 dX12_laysCheap_133 134 rfl rfl rfl ?_
                      refine mv_get (M := mX12_laysCheap) (v := .ref 153) dX12_laysCheap_134 FX12 46 wd1219 (by decide) (tl123 hT) rfl rfl 137 rfl ?_
                      refine pv_bipush (M := mX12_laysCheap) (v := 17) dX12_laysCheap_137 139 rfl (by decide) ?_
                      refine pv_iload_n (M := mX12_laysCheap) 1 dX12_laysCheap_139 140 rfl rfl rfl ?_
                      refine iv_imul (M := mX12_laysCheap) (X := 17) (Y := y5.toInt) dX12_laysCheap_140 141 rfl (by decide) rfl (by omega) (by omega) (fun v244 ev244 => ?_)
                      refine pv_iload_n (M := mX12_laysCheap) 2 dX12_laysCheap_141 142 rfl rfl rfl ?_
                      refine iv_iadd (M := mX12_laysCheap) (X := v244.toInt) (Y := y25.toInt) dX12_laysCheap_142 143 rfl rfl rfl (by omega) (by omega) (fun v245 ev245 => ?_)
                      refine pv_iload_n (M := mX12_laysCheap) 3 dX12_laysCheap_143 144 rfl rfl rfl ?_
                      refine iv_iast (M := mX12_laysCheap) (X := v245.toInt) (l1 := 0) (l2 := 1999999998) dX12_laysCheap_144 (tl153 hT) rfl (by omega) (by omega) I28 (fun _ => rfl) (by decide) (by decide) 145 rfl (fun m246 e249 I247 => ?_)
                      have K248 := K29.set e249 rfl
                      have w250 : (m246 123 40).toInt = (m26 123 40).toInt := by rw [e249, up2_ne (by omega)]
                      have w251 : (m246 123 41).toInt = (m26 123 41).toInt := by rw [e249, up2_ne (by omega)]
                      refine iv_inc (M := mX12_laysCheap) (C := (-1)) dX12_laysCheap_145 148 rfl rfl (by decide) rfl rfl (by decide) (by omega) (by omega) (fun v252 ev252 => ?_)
                      show PV _ _ _ _ _ _ _ 148 [.ref 123, .int y5, .int v252, .int 0] [] _
                      refine pv_goto (M := mX12_laysCheap) (tgt := 14) dX12_laysCheap_148 (by decide) ?_
                      refine pv_fg (lo2 := [.ref 123, .int y5, .int v252, pv_U]) ⟨Or.inr rfl, ⟨Or.inr rfl, ⟨Or.inr rfl, ⟨Or.inl rfl, trivial⟩⟩⟩⟩ ?_
                      have kb14 : TRt m246 (m 149) (m 150) (cRl m) (m 123 40).toInt.toNat (m 123 41).toInt.toNat y5.toInt v252.toInt := TRt_s kg14 (by omega) (by omega) (by omega) (by omega) e249 (by omega) kV (by omega)
                      exact ih32 v252 m246 n27 (by first | omega | assumption | exact (iv_rng _).2 | exact (iv_rng _).1 | decide) (by first | omega | assumption | exact (iv_rng _).2 | exact (iv_rng _).1 | decide) (by first | omega | assumption | (show y5.toInt ≤ (m 123 40).toInt; omega) | decide) (by first | omega | assumption | (show v252.toInt ≤ (m 123 41).toInt; omega) | decide) kb14 I247 K248 (by omega)
                    · have c242 := iv_nle (X := v241.toInt) (Y := y25.toInt) c242 rfl rfl
                      refine pv_aload_n (M := mX12_laysCheap) 0 dX12_laysCheap_83 84 rfl rfl rfl ?_
                      refine mv_get (M := mX12_laysCheap) (v := .ref 149) dX12_laysCheap_84 FX12 42 wd1215 (by decide) (tl123 hT) rfl rfl 87 rfl ?_
                      refine pv_iload_n (M := mX12_laysCheap) 1 dX12_laysCheap_87 88 rfl rfl rfl ?_
                      refine iv_iald (M := mX12_laysCheap) (X := y5.toInt) (l1 := 0) (l2 := 25) dX12_laysCheap_88 (tl149 hT) rfl (by omega) (by omega) I28 (fun _ => rfl) 89 rfl (fun v254 ev254 pv254 qv254 => ?_)
                      have k89 : v254 = m 149 y5.toInt.toNat := ev254.trans (K29 149 _ rfl)
                      have k89i := congrArg Int32.toInt k89
                      refine pv_aload_n (M := mX12_laysCheap) 0 dX12_laysCheap_89 90 rfl rfl rfl ?_
                      refine mv_get (M := mX12_laysCheap) (v := .ref 150) dX12_laysCheap_90 FX12 43 wd1216 (by decide) (tl123 hT) rfl rfl 93 rfl ?_
                      refine pv_iload_n (M := mX12_laysCheap) 2 dX12_laysCheap_93 94 rfl rfl rfl ?_
                      refine iv_iald (M := mX12_laysCheap) (X := y25.toInt) (l1 := 0) (l2 := 25) dX12_laysCheap_94 (tl150 hT) rfl (by omega) (by omega) I28 (fun _ => rfl) 95 rfl (fun v257 ev257 pv257 qv257 => ?_)
                      have k95 : v257 = m 150 y25.toInt.toNat := ev257.trans (K29 150 _ rfl)
                      have k95i := congrArg Int32.toInt k95
                      refine pv_icmp_ne (M := mX12_laysCheap) (tgt := 133) dX12_laysCheap_95 98 rfl (by decide) (fun c260 => ?_) (fun c260 => ?_)
                      · have c260 := iv_ne (X := v254.toInt) (Y := v257.toInt) c260 rfl rfl
                        have kV : ((0 : Int32)).toInt = enc 1000000000 (ctv (m 149) (m 150) (cRl m) (m 123 40).toInt.toNat (m 123 41).toInt.toNat ((m 123 40).toInt.toNat - y5.toInt.toNat) y25.toInt.toNat) := by first | (exfalso; omega) | (rw [show (m 123 40).toInt.toNat - y5.toInt.toNat = 0 by omega]; exact k66z) | (rw [show (m 123 40).toInt.toNat - y5.toInt.toNat = ((m 123 40).toInt.toNat - (y5.toInt.toNat + 1)) + 1 by omega]; refine enc_minr (x := if y25.toInt.toNat < (m 123 41).toInt.toNat ∧ m 149 ((m 123 40).toInt.toNat - (((m 123 40).toInt.toNat - (y5.toInt.toNat + 1)) + 1)) = m 150 y25.toInt.toNat then ctv (m 149) (m 150) (cRl m) (m 123 40).toInt.toNat (m 123 41).toInt.toNat ((m 123 40).toInt.toNat - (y5.toInt.toNat + 1)) (y25.toInt.toNat + 1) else none) (y := plO (cRl m ((m 123 40).toInt.toNat - (((m 123 40).toInt.toNat - (y5.toInt.toNat + 1)) + 1))) (ctv (m 149) (m 150) (cRl m) (m 123 40).toInt.toNat (m 123 41).toInt.toNat ((m 123 40).toInt.toNat - (y5.toInt.toNat + 1)) y25.toInt.toNat)) rfl (b := enc 1000000000 (plO (cRl m y5.toInt.toNat) (ctv (m 149) (m 150) (cRl m) (m 123 40).toInt.toNat (m 123 41).toInt.toNat ((m 123 40).toInt.toNat - (y5.toInt.toNat + 1)) y25.toInt.toNat))) (by rw [show (m 123 40).toInt.toNat - (((m 123 40).toInt.toNat - (y5.toInt.toNat + 1)) + 1) = y5.toInt.toNat by omega]) (fun w z => by split at z; (have y := ctv_b kCB _ (by omega) _ w z; omega); (cases z)) (fun w z => by obtain ⟨a, b, z1, z2, z3⟩ := plO_some z; have y1 := ctv_b kCB _ (by omega) _ b z2; have y2 := kCB _ (by omega) a z1; omega) ?_; rw [show (m 123 40).toInt.toNat - (((m 123 40).toInt.toNat - (y5.toInt.toNat + 1)) + 1) = y5.toInt.toNat by omega, ← k66]; first | (rw [if_pos ⟨by omega, by rw [← k89, ← k95]; exact i_eq (by omega)⟩, ← k113]; omega) | (rw [if_neg (fun q => by have q1 := q.1; omega)]; exact Or.inr ⟨by omega, by show _ ≤ (1000000000 : Int); omega⟩) | (rw [if_neg (fun q => by have q2 := congrArg Int32.toInt q.2; rw [← k89, ← k95] at q2; omega)]; exact Or.inr ⟨by omega, by show _ ≤ (1000000000 : Int); omega⟩))
                        refine pv_aload_n (M := mX12_laysCheap) 0 dX12_laysCheap_133 134 rfl rfl rfl ?_
                        refine mv_get (M := mX12_laysCheap) (v := .ref 153) dX12_laysCheap_134 FX12 46 wd1219 (by decide) (tl123 hT) rfl rfl 137 rfl ?_
                        refine pv_bipush (M := mX12_laysCheap) (v := 17) dX12_laysCheap_137 139 rfl (by decide) ?_
                        refine pv_iload_n (M := mX12_laysCheap) 1 dX12_laysCheap_139 140 rfl rfl rfl ?_
                        refine iv_imul (M := mX12_laysCheap) (X := 17) (Y := y5.toInt) dX12_laysCheap_140 141 rfl (by decide) rfl (by omega) (by omega) (fun v262 ev262 => ?_)
                        refine pv_iload_n (M := mX12_laysCheap) 2 dX12_laysCheap_141 142 rfl rfl rfl ?_
                        refine iv_iadd (M := mX12_laysCheap) (X := v262.toInt) (Y := y25.toInt) dX12_laysCheap_142 143 rfl rfl rfl (by omega) (by omega) (fun v263 ev263 => ?_)
                        refine pv_iload_n (M := mX12_laysCheap) 3 dX12_laysCheap_143 144 rfl rfl rfl ?_
                        refine iv_iast (M := mX12_laysCheap) (X := v263.toInt) (l1 := 0) (l2 := 1999999998) dX12_laysCheap_144 (tl153 hT) rfl (by omega) (by omega) I28 (fun _ => rfl) (by decide) (by decide) 145 rfl (fun m264 e267 I265 => ?_)
                        have K266 := K29.set e267 rfl
                        have w268 : (m264 123 40).toInt = (m26 123 40).toInt := by rw [e267, up2_ne (by omega)]
                        have w269 : (m264 123 41).toInt = (m26 123 41).toInt := by rw [e267, up2_ne (by omega)]
                        refine iv_inc (M := mX12_laysCheap) (C := (-1)) dX12_laysCheap_145 148 rfl rfl (by decide) rfl rfl (by decide) (by omega) (by omega) (fun v270 ev270 => ?_)
                        show PV _ _ _ _ _ _ _ 148 [.ref 123, .int y5, .int v270, .int 0] [] _
                        refine pv_goto (M := mX12_laysCheap) (tgt := 14) dX12_laysCheap_148 (by decide) ?_
                        refine pv_fg (lo2 := [.ref 123, .int y5, .int v270, pv_U]) ⟨Or.inr rfl, ⟨Or.inr rfl, ⟨Or.inr rfl, ⟨Or.inl rfl, trivial⟩⟩⟩⟩ ?_
                        have kb14 : TRt m264 (m 149) (m 150) (cRl m) (m 123 40).toInt.toNat (m 123 41).toInt.toNat y5.toInt v270.toInt := TRt_s kg14 (by omega) (by omega) (by omega) (by omega) e267 (by omega) kV (by omega)
                        exact ih32 v270 m264 n27 (by first | omega | assumption | exact (iv_rng _).2 | exact (iv_rng _).1 | decide) (by first | omega | assumption | exact (iv_rng _).2 | exact (iv_rng _).1 | decide) (by first | omega | assumption | (show y5.toInt ≤ (m 123 40).toInt; omega) | decide) (by first | omega | assumption | (show v270.toInt ≤ (m 123 41).toInt; omega) | decide) kb14 I265 K266 (by omega)
                      · have c260 := iv_eq (X := v254.toInt) (Y := v257.toInt) c260 rfl rfl
                        refine pv_aload_n (M := mX12_laysCheap) 0 dX12_laysCheap_98 99 rfl rfl rfl ?_
                        refine mv_get (M := mX12_laysCheap) (v := .ref 153) dX12_laysCheap_99 FX12 46 wd1219 (by decide) (tl123 hT) rfl rfl 102 rfl ?_
                        refine pv_bipush (M := mX12_laysCheap) (v := 17) dX12_laysCheap_102 104 rfl (by decide) ?_
                        refine pv_iload_n (M := mX12_laysCheap) 1 dX12_laysCheap_104 105 rfl rfl rfl ?_
                        refine pv_iconst (M := mX12_laysCheap) (v := 1) dX12_laysCheap_105 106 rfl (by decide) ?_
                        refine iv_iadd (M := mX12_laysCheap) (X := y5.toInt) (Y := 1) dX12_laysCheap_106 107 rfl rfl (by decide) (by omega) (by omega) (fun v272 ev272 => ?_)
                        refine iv_imul (M := mX12_laysCheap) (X := 17) (Y := v272.toInt) dX12_laysCheap_107 108 rfl (by decide) rfl (by omega) (by omega) (fun v273 ev273 => ?_)
                        refine pv_iload_n (M := mX12_laysCheap) 2 dX12_laysCheap_108 109 rfl rfl rfl ?_
                        refine iv_iadd (M := mX12_laysCheap) (X := v273.toInt) (Y := y25.toInt) dX12_laysCheap_109 110 rfl rfl rfl (by omega) (by omega) (fun v274 ev274 => ?_)
                        refine pv_iconst (M := mX12_laysCheap) (v := 1) dX12_laysCheap_110 111 rfl (by decide) ?_
                        refine iv_iadd (M := mX12_laysCheap) (X := v274.toInt) (Y := 1) dX12_laysCheap_111 112 rfl rfl (by decide) (by omega) (by omega) (fun v275 ev275 => ?_)
                        refine iv_iald (M := mX12_laysCheap) (X := v275.toInt) (l1 := 0) (l2 := 1999999998) dX12_laysCheap_112 (tl153 hT) rfl (by omega) (by omega) I28 (fun _ => rfl) 113 rfl (fun v276 ev276 pv276 qv276 => ?_)
                        have k113 : v276.toInt = enc 1000000000 (ctv (m 149) (m 150) (cRl m) (m 123 40).toInt.toNat (m 123 41).toInt.toNat ((m 123 40).toInt.toNat - (y5.toInt.toNat + 1)) (y25.toInt.toNat + 1)) := by rw [ev276]; have q := kg14 (y5.toInt.toNat + 1) (y25.toInt.toNat + 1) (by omega) (by omega) (by omega); rw [← q]; congr 2; omega
                        refine pv_iload_n (M := mX12_laysCheap) 3 dX12_laysCheap_113 114 rfl rfl rfl ?_
                        refine pv_icmp_ge (M := mX12_laysCheap) (tgt := 133) dX12_laysCheap_114 117 rfl (by decide) (fun c278 => ?_) (fun c278 => ?_)
                        · have c278 := iv_le (X := 0) (Y := v276.toInt) c278 (by decide) rfl
                          have kV : ((0 : Int32)).toInt = enc 1000000000 (ctv (m 149) (m 150) (cRl m) (m 123 40).toInt.toNat (m 123 41).toInt.toNat ((m 123 40).toInt.toNat - y5.toInt.toNat) y25.toInt.toNat) := by first | (exfalso; omega) | (rw [show (m 123 40).toInt.toNat - y5.toInt.toNat = 0 by omega]; exact k66z) | (rw [show (m 123 40).toInt.toNat - y5.toInt.toNat = ((m 123 40).toInt.toNat - (y5.toInt.toNat + 1)) + 1 by omega]; refine enc_minr (x := if y25.toInt.toNat < (m 123 41).toInt.toNat ∧ m 149 ((m 123 40).toInt.toNat - (((m 123 40).toInt.toNat - (y5.toInt.toNat + 1)) + 1)) = m 150 y25.toInt.toNat then ctv (m 149) (m 150) (cRl m) (m 123 40).toInt.toNat (m 123 41).toInt.toNat ((m 123 40).toInt.toNat - (y5.toInt.toNat + 1)) (y25.toInt.toNat + 1) else none) (y := plO (cRl m ((m 123 40).toInt.toNat - (((m 123 40).toInt.toNat - (y5.toInt.toNat + 1)) + 1))) (ctv (m 149) (m 150) (cRl m) (m 123 40).toInt.toNat (m 123 41).toInt.toNat ((m 123 40).toInt.toNat - (y5.toInt.toNat + 1)) y25.toInt.toNat)) rfl (b := enc 1000000000 (plO (cRl m y5.toInt.toNat) (ctv (m 149) (m 150) (cRl m) (m 123 40).toInt.toNat (m 123 41).toInt.toNat ((m 123 40).toInt.toNat - (y5.toInt.toNat + 1)) y25.toInt.toNat))) (by rw [show (m 123 40).toInt.toNat - (((m 123 40).toInt.toNat - (y5.toInt.toNat + 1)) + 1) = y5.toInt.toNat by omega]) (fun w z => by split at z; (have y := ctv_b kCB _ (by omega) _ w z; omega); (cases z)) (fun w z => by obtain ⟨a, b, z1, z2, z3⟩ := plO_some z; have y1 := ctv_b kCB _ (by omega) _ b z2; have y2 := kCB _ (by omega) a z1; omega) ?_; rw [show (m 123 40).toInt.toNat - (((m 123 40).toInt.toNat - (y5.toInt.toNat + 1)) + 1) = y5.toInt.toNat by omega, ← k66]; first | (rw [if_pos ⟨by omega, by rw [← k89, ← k95]; exact i_eq (by omega)⟩, ← k113]; omega) | (rw [if_neg (fun q => by have q1 := q.1; omega)]; exact Or.inr ⟨by omega, by show _ ≤ (1000000000 : Int); omega⟩) | (rw [if_neg (fun q => by have q2 := congrArg Int32.toInt q.2; rw [← k89, ← k95] at q2; omega)]; exact Or.inr ⟨by omega, by show _ ≤ (1000000000 : Int); omega⟩))
                          refine pv_aload_n (M := mX12_laysCheap) 0 dX12_laysCheap_133 134 rfl rfl rfl ?_
                          refine mv_get (M := mX12_laysCheap) (v := .ref 153) dX12_laysCheap_134 FX12 46 wd1219 (by decide) (tl123 hT) rfl rfl 137 rfl ?_
                          refine pv_bipush (M := mX12_laysCheap) (v := 17) dX12_laysCheap_137 139 rfl (by decide) ?_
                          refine pv_iload_n (M := mX12_laysCheap) 1 dX12_laysCheap_139 140 rfl rfl rfl ?_
                          refine iv_imul (M := mX12_laysCheap) (X := 17) (Y := y5.toInt) dX12_laysCheap_140 141 rfl (by decide) rfl (by omega) (by omega) (fun v280 ev280 => ?_)
                          refine pv_iload_n (M := mX12_laysCheap) 2 dX12_laysCheap_141 142 rfl rfl rfl ?_
                          refine iv_iadd (M := mX12_laysCheap) (X := v280.toInt) (Y := y25.toInt) dX12_laysCheap_142 143 rfl rfl rfl (by omega) (by omega) (fun v281 ev281 => ?_)
                          refine pv_iload_n (M := mX12_laysCheap) 3 dX12_laysCheap_143 144 rfl rfl rfl ?_
                          refine iv_iast (M := mX12_laysCheap) (X := v281.toInt) (l1 := 0) (l2 := 1999999998) dX12_laysCheap_144 (tl153 hT) rfl (by omega) (by omega) I28 (fun _ => rfl) (by decide) (by decide) 145 rfl (fun m282 e285 I283 => ?_)
                          have K284 := K29.set e285 rfl
                          have w286 : (m282 123 40).toInt = (m26 123 40).toInt := by rw [e285, up2_ne (by omega)]
                          have w287 : (m282 123 41).toInt = (m26 123 41).toInt := by rw [e285, up2_ne (by omega)]
                          refine iv_inc (M := mX12_laysCheap) (C := (-1)) dX12_laysCheap_145 148 rfl rfl (by decide) rfl rfl (by decide) (by omega) (by omega) (fun v288 ev288 => ?_)
                          show PV _ _ _ _ _ _ _ 148 [.ref 123, .int y5, .int v288, .int 0] [] _
                          refine pv_goto (M := mX12_laysCheap) (tgt := 14) dX12_laysCheap_148 (by decide) ?_
                          refine pv_fg (lo2 := [.ref 123, .int y5, .int v288, pv_U]) ⟨Or.inr rfl, ⟨Or.inr rfl, ⟨Or.inr rfl, ⟨Or.inl rfl, trivial⟩⟩⟩⟩ ?_
                          have kb14 : TRt m282 (m 149) (m 150) (cRl m) (m 123 40).toInt.toNat (m 123 41).toInt.toNat y5.toInt v288.toInt := TRt_s kg14 (by omega) (by omega) (by omega) (by omega) e285 (by omega) kV (by omega)
                          exact ih32 v288 m282 n27 (by first | omega | assumption | exact (iv_rng _).2 | exact (iv_rng _).1 | decide) (by first | omega | assumption | exact (iv_rng _).2 | exact (iv_rng _).1 | decide) (by first | omega | assumption | (show y5.toInt ≤ (m 123 40).toInt; omega) | decide) (by first | omega | assumption | (show v288.toInt ≤ (m 123 41).toInt; omega) | decide) kb14 I283 K284 (by omega)
                        · have c278 := iv_nle (X := 0) (Y := v276.toInt) c278 (by decide) rfl
                          omega
        have kin14 : TRt m6 (m 149) (m 150) (cRl m) (m 123 40).toInt.toNat (m 123 41).toInt.toNat y5.toInt v24.toInt := by rw [show v24.toInt = (m 123 41).toInt by omega]; exact kg5
        exact lp31 (((v24.toInt + 1) : Int).toNat + 1) v24 m6 n7 (by first | omega | assumption | exact (iv_rng _).2 | exact (iv_rng _).1 | decide) (by first | omega | assumption | exact (iv_rng _).2 | exact (iv_rng _).1 | decide) (by first | omega | assumption | (show y5.toInt ≤ (m 123 40).toInt; omega) | decide) (by first | omega | assumption | (show v24.toInt ≤ (m 123 41).toInt; omega) | decide) kin14 I8 K9 (by omega)
  exact lp11 (((v4.toInt + 1) : Int).toNat + 1) v4 m n (by first | omega | assumption | exact (iv_rng _).2 | exact (iv_rng _).1 | decide) (by first | omega | assumption | exact (iv_rng _).2 | exact (iv_rng _).1 | decide) (by first | omega | assumption | (show v4.toInt ≤ (m 123 40).toInt; omega) | decide) (TRt_0 (by omega) (by omega)) I Kp (by omega)

set_option maxHeartbeats 2000000 in
set_option maxRecDepth 20000 in
theorem s_X12_laysStays_va (g : pv_G) {T : List mv_T} {m : Nat → Nat → Int32} {n : Nat → Nat → Int64} {r : Nat → Value} (hT : TX T) (I : IV BB m) (hp0 : ∀ p j, p ≤ (m 123 40).toInt.toNat → j ≤ (m 123 41).toInt.toNat → (m 153 (17 * p + j)).toInt = enc 1000000000 (ctv (m 149) (m 150) (cRl m) (m 123 40).toInt.toNat (m 123 41).toInt.toNat ((m 123 40).toInt.toNat - p) j)) (hp1 : ctv (m 149) (m 150) (cRl m) (m 123 40).toInt.toNat (m 123 41).toInt.toNat (m 123 40).toInt.toNat 0 ≠ none) (hp2 : CB (cRl m) (m 123 40).toInt.toNat) : PM g mX12_laysStays yX12_laysStays (sqV T BB (wl [(154, 154, none)]) r m (fun m' => STS (m 149) (m 150) (cRl m) (m 123 40).toInt.toNat (m 123 41).toInt.toNat (m' 154))) 1 0 0 [.ref 123] (mk T m n r) := by
  have Kp : fr (wl [(154, 154, none)]) m m := fr.rf
  have z75 : 0 ≤ (m 123 40).toInt ∧ (m 123 40).toInt ≤ 40 := I 123 40
  have z76 : 0 ≤ (m 123 41).toInt ∧ (m 123 41).toInt ≤ 16 := I 123 41
  refine PM.of 2 (lo := [.ref 123, pv_U, pv_U]) rfl (by decide) rfl rfl (Nat.le_of_ble_eq_true rfl) ?_
  have kn0 : 0 ≤ (m 123 40).toInt ∧ (m 123 40).toInt ≤ 40 := I 123 40
  have kn1 : 0 ≤ (m 123 41).toInt ∧ (m 123 41).toInt ≤ 16 := I 123 41
  refine pv_iconst (M := mX12_laysStays) (v := 0) dX12_laysStays_0 1 rfl (by decide) ?_
  refine pv_istore_n (M := mX12_laysStays) 1 (lo2 := [.ref 123, .int 0, pv_U]) dX12_laysStays_1 2 rfl rfl (by decide) rfl rfl ?_
  refine pv_iconst (M := mX12_laysStays) (v := 0) dX12_laysStays_2 3 rfl (by decide) ?_
  refine pv_istore_n (M := mX12_laysStays) 2 (lo2 := [.ref 123, .int 0, .int 0]) dX12_laysStays_3 4 rfl rfl (by decide) rfl rfl ?_
  have lp10 : ∀ (fuel9 : Nat) (y3 : Int32) (y4 : Int32) (m5 : Nat → Nat → Int32) (n6 : Nat → Nat → Int64), (0 ≤ y3.toInt) → (y3.toInt ≤ 16) → (0 ≤ y4.toInt) → (y4.toInt ≤ 40) → (y4.toInt ≤ (m 123 40).toInt) → (y3.toInt.toNat = jtp (m 149) (m 150) (cRl m) (m 123 40).toInt.toNat (m 123 41).toInt.toNat y4.toInt.toNat) → (∀ p, p < y4.toInt.toNat → kpp (m 149) (m 150) (cRl m) (m 123 40).toInt.toNat (m 123 41).toInt.toNat p (jtp (m 149) (m 150) (cRl m) (m 123 40).toInt.toNat (m 123 41).toInt.toNat p) → (m5 154 (jtp (m 149) (m 150) (cRl m) (m 123 40).toInt.toNat (m 123 41).toInt.toNat p)).toInt = p) → IV BB m5 → fr (wl [(154, 154, none)]) m m5 → ((40 - y4.toInt) : Int).toNat < fuel9 → PV none g mX12_laysStays (sqV T BB (wl [(154, 154, none)]) r m (fun m' => STS (m 149) (m 150) (cRl m) (m 123 40).toInt.toNat (m 123 41).toInt.toNat (m' 154))) 1 0 0 4 [.ref 123, .int y3, .int y4] [] (mk T m5 n6 r) := by
    intro fuel9
    induction fuel9 with
    | zero => intro y3 y4 m5 n6 b12 b13 b14 b15 b16 b17 b18 I7 K8 z19; omega
    | succ fuel9 ih11 =>
      intro y3 y4 m5 n6 b12 b13 b14 b15 b16 b17 b18 I7 K8 z19
      have z20 : 0 ≤ (m5 123 40).toInt ∧ (m5 123 40).toInt ≤ 40 := I7 123 40
      have z21 : 0 ≤ (m5 123 41).toInt ∧ (m5 123 41).toInt ≤ 16 := I7 123 41
      have kgj := (show y3.toInt.toNat = jtp (m 149) (m 150) (cRl m) (m 123 40).toInt.toNat (m 123 41).toInt.toNat y4.toInt.toNat by assumption)
      have kgs := (show ∀ p, p < y4.toInt.toNat → kpp (m 149) (m 150) (cRl m) (m 123 40).toInt.toNat (m 123 41).toInt.toNat p (jtp (m 149) (m 150) (cRl m) (m 123 40).toInt.toNat (m 123 41).toInt.toNat p) → (m5 154 (jtp (m 149) (m 150) (cRl m) (m 123 40).toInt.toNat (m 123 41).toInt.toNat p)).toInt = p by assumption)
      have kj1 := (jtp_le (r := m 149) (dd := m 150) (c := cRl m) (n0 := (m 123 40).toInt.toNat) (n1 := (m 123 41).toInt.toNat) y4.toInt.toNat).1
      have ks0 : (m5 123 40).toInt = (m 123 40).toInt := congrArg Int32.toInt (K8 123 40 rfl)
      have ks1 : (m5 123 41).toInt = (m 123 41).toInt := congrArg Int32.toInt (K8 123 41 rfl)
      have kI4 : y4.toInt < (m 123 40).toInt → y3.toInt < (m 123 41).toInt → ((m 149 y4.toInt.toNat = m 150 y3.toInt.toNat ∧ (m 153 (17 * (y4.toInt.toNat + 1) + (y3.toInt.toNat + 1))).toInt = (m 153 (17 * y4.toInt.toNat + y3.toInt.toNat)).toInt) ↔ kpp (m 149) (m 150) (cRl m) (m 123 40).toInt.toNat (m 123 41).toInt.toNat y4.toInt.toNat (jtp (m 149) (m 150) (cRl m) (m 123 40).toInt.toNat (m 123 41).toInt.toNat y4.toInt.toNat)) := fun a b => by rw [← kgj]; exact KPr_iff hp2 (by omega) (by omega) (by omega) (hp0 _ _ (by omega) (by omega)) (hp0 _ _ (by omega) (by omega)) (by rw [kgj]; exact jtp_ok hp1 _ (by omega))
      refine pv_iload_n (M := mX12_laysStays) 2 dX12_laysStays_4 5 rfl rfl rfl ?_
      refine pv_aload_n (M := mX12_laysStays) 0 dX12_laysStays_5 6 rfl rfl rfl ?_
      refine iv_get (M := mX12_laysStays) (l1 := 0) (l2 := 40) dX12_laysStays_6 FX12 40 wd1213 (by decide) (tl123 hT) rfl I7 rfl 9 rfl (fun v28 ev28 pv28 qv28 => ?_)
      have wv28 : v28.toInt = (m5 123 40).toInt := congrArg Int32.toInt ev28
      refine pv_icmp_ge (M := mX12_laysStays) (tgt := 84) dX12_laysStays_9 12 rfl (by decide) (fun c29 => ?_) (fun c29 => ?_)
      · have c29 := iv_le (X := v28.toInt) (Y := y4.toInt) c29 rfl rfl
        exact pv_vret (M := mX12_laysStays) dX12_laysStays_84 rfl ⟨_, _, rfl, rfl, I7, K8, (fun p hp hk => by by_cases z : p < y4.toInt.toNat; (exact kgs p z hk); (exfalso; have q1 := hk.1; obtain ⟨d, hd⟩ : ∃ d, p = y4.toInt.toNat + d := ⟨p - y4.toInt.toNat, by omega⟩; have q2 := jtp_up (r := m 149) (dd := m 150) (c := cRl m) (n0 := (m 123 40).toInt.toNat) (n1 := (m 123 41).toInt.toNat) d y4.toInt.toNat; rw [← hd] at q2; omega))⟩
      · have c29 := iv_nle (X := v28.toInt) (Y := y4.toInt) c29 rfl rfl
        refine pv_iload_n (M := mX12_laysStays) 1 dX12_laysStays_12 13 rfl rfl rfl ?_
        refine pv_aload_n (M := mX12_laysStays) 0 dX12_laysStays_13 14 rfl rfl rfl ?_
        refine iv_get (M := mX12_laysStays) (l1 := 0) (l2 := 16) dX12_laysStays_14 FX12 41 wd1214 (by decide) (tl123 hT) rfl I7 rfl 17 rfl (fun v30 ev30 pv30 qv30 => ?_)
        have wv30 : v30.toInt = (m5 123 41).toInt := congrArg Int32.toInt ev30
        refine pv_icmp_ge (M := mX12_laysStays) (tgt := 84) dX12_laysStays_17 20 rfl (by decide) (fun c31 => ?_) (fun c31 => ?_)
        · have c31 := iv_le (X := v30.toInt) (Y := y3.toInt) c31 rfl rfl
          exact pv_vret (M := mX12_laysStays) dX12_laysStays_84 rfl ⟨_, _, rfl, rfl, I7, K8, (fun p hp hk => by by_cases z : p < y4.toInt.toNat; (exact kgs p z hk); (exfalso; have q1 := hk.1; obtain ⟨d, hd⟩ : ∃ d, p = y4.toInt.toNat + d := ⟨p - y4.toInt.toNat, by omega⟩; have q2 := jtp_up (r := m 149) (dd := m 150) (c := cRl m) (n0 := (m 123 40).toInt.toNat) (n1 := (m 123 41).toInt.toNat) d y4.toInt.toNat; rw [← hd] at q2; omega))⟩
        · have c31 := iv_nle (X := v30.toInt) (Y := y3.toInt) c31 rfl rfl
          refine pv_aload_n (M := mX12_laysStays) 0 dX12_laysStays_20 21 rfl rfl rfl ?_
          refine mv_get (M := mX12_laysStays) (v := .ref 149) dX12_laysStays_21 FX12 42 wd1215 (by decide) (tl123 hT) rfl rfl 24 rfl ?_
          refine pv_iload_n (M := mX12_laysStays) 2 dX12_laysStays_24 25 rfl rfl rfl ?_
          refine iv_iald (M := mX12_laysStays) (X := y4.toInt) (l1 := 0) (l2 := 25) dX12_laysStays_25 (tl149 hT) rfl (by omega) (by omega) I7 (fun _ => rfl) 26 rfl (fun v32 ev32 pv32 qv32 => ?_)
          have k26 : v32 = m 149 y4.toInt.toNat := ev32.trans (K8 149 _ rfl)
          have k26i := congrArg Int32.toInt k26
          refine pv_aload_n (M := mX12_laysStays) 0 dX12_laysStays_26 27 rfl rfl rfl ?_
          refine mv_get (M := mX12_laysStays) (v := .ref 150) dX12_laysStays_27 FX12 43 wd1216 (by decide) (tl123 hT) rfl rfl 30 rfl ?_
          refine pv_iload_n (M := mX12_laysStays) 1 dX12_laysStays_30 31 rfl rfl rfl ?_
          refine iv_iald (M := mX12_laysStays) (X := y3.toInt) (l1 := 0) (l2 := 25) dX12_laysStays_31 (tl150 hT) rfl (by omega) (by omega) I7 (fun _ => rfl) 32 rfl (fun v35 ev35 pv35 qv35 => ?_)
          have k32 : v35 = m 150 y3.toInt.toNat := ev35.trans (K8 150 _ rfl)
          have k32i := congrArg Int32.toInt k32
          refine pv_icmp_ne (M := mX12_laysStays) (tgt := 78) dX12_laysStays_32 35 rfl (by decide) (fun c38 => ?_) (fun c38 => ?_)
          · have c38 := iv_ne (X := v32.toInt) (Y := v35.toInt) c38 rfl rfl
            refine iv_inc (M := mX12_laysStays) (C := 1) dX12_laysStays_78 81 rfl rfl (by decide) rfl rfl (by decide) (by omega) (by omega) (fun v39 ev39 => ?_)
            show PV _ _ _ _ _ _ _ 81 [.ref 123, .int y3, .int v39] [] _
            refine pv_goto (M := mX12_laysStays) (tgt := 4) dX12_laysStays_81 (by decide) ?_
            have ke2 : v39.toInt.toNat = (y4.toInt).toNat + 1 := by omega
            have kno : kpp (m 149) (m 150) (cRl m) (m 123 40).toInt.toNat (m 123 41).toInt.toNat (y4.toInt).toNat (jtp (m 149) (m 150) (cRl m) (m 123 40).toInt.toNat (m 123 41).toInt.toNat (y4.toInt).toNat) ∨ ¬ kpp (m 149) (m 150) (cRl m) (m 123 40).toInt.toNat (m 123 41).toInt.toNat (y4.toInt).toNat (jtp (m 149) (m 150) (cRl m) (m 123 40).toInt.toNat (m 123 41).toInt.toNat (y4.toInt).toNat) := by first | exact Or.inl k67 | exact Or.inr (fun q => by have q1 := (kI4 (by omega) (by omega)).mpr q; have q2 := q1.2; omega) | exact Or.inr (fun q => by have q1 := (kI4 (by omega) (by omega)).mpr q; have q2 := congrArg Int32.toInt q1.1; omega)
            have kbj : y3.toInt.toNat = jtp (m 149) (m 150) (cRl m) (m 123 40).toInt.toNat (m 123 41).toInt.toNat v39.toInt.toNat := by rw [ke2]; first | (rw [jtp_y k67, ← kgj]; omega) | (rw [jtp_n (fun q => by have q1 := (kI4 (by omega) (by omega)).mpr q; have q2 := q1.2; omega), ← kgj]) | (rw [jtp_n (fun q => by have q1 := (kI4 (by omega) (by omega)).mpr q; have q2 := congrArg Int32.toInt q1.1; omega), ← kgj])
            have kbs : ∀ p, p < v39.toInt.toNat → kpp (m 149) (m 150) (cRl m) (m 123 40).toInt.toNat (m 123 41).toInt.toNat p (jtp (m 149) (m 150) (cRl m) (m 123 40).toInt.toNat (m 123 41).toInt.toNat p) → (m5 154 (jtp (m 149) (m 150) (cRl m) (m 123 40).toInt.toNat (m 123 41).toInt.toNat p)).toInt = p := fun p hp hk => by rw [ke2] at hp; by_cases z : p = (y4.toInt).toNat; (subst z; first | (rw [noE, up2_at (by omega)]; omega) | exact absurd hk (fun q => by have q1 := (kI4 (by omega) (by omega)).mpr q; have q2 := q1.2; omega) | exact absurd hk (fun q => by have q1 := (kI4 (by omega) (by omega)).mpr q; have q2 := congrArg Int32.toInt q1.1; omega)); (first | (rw [noE, up2_ne (fun q => by have q2 := q.2; have q3 := jtp_lt_of (r := m 149) (dd := m 150) (c := cRl m) (n0 := (m 123 40).toInt.toNat) (n1 := (m 123 41).toInt.toNat) (p := p) (q := (y4.toInt).toNat) hk (by omega); omega)]; exact kgs p (by omega) hk) | exact kgs p (by omega) hk)
            exact ih11 y3 v39 m5 n6 (by first | omega | assumption | exact (iv_rng _).2 | exact (iv_rng _).1 | decide) (by first | omega | assumption | exact (iv_rng _).2 | exact (iv_rng _).1 | decide) (by first | omega | assumption | exact (iv_rng _).2 | exact (iv_rng _).1 | decide) (by first | omega | assumption | exact (iv_rng _).2 | exact (iv_rng _).1 | decide) (by first | omega | assumption | (show v39.toInt ≤ (m 123 40).toInt; omega) | decide) kbj kbs I7 K8 (by omega)
          · have c38 := iv_eq (X := v32.toInt) (Y := v35.toInt) c38 rfl rfl
            refine pv_aload_n (M := mX12_laysStays) 0 dX12_laysStays_35 36 rfl rfl rfl ?_
            refine mv_get (M := mX12_laysStays) (v := .ref 153) dX12_laysStays_36 FX12 46 wd1219 (by decide) (tl123 hT) rfl rfl 39 rfl ?_
            refine pv_bipush (M := mX12_laysStays) (v := 17) dX12_laysStays_39 41 rfl (by decide) ?_
            refine pv_iload_n (M := mX12_laysStays) 2 dX12_laysStays_41 42 rfl rfl rfl ?_
            refine pv_iconst (M := mX12_laysStays) (v := 1) dX12_laysStays_42 43 rfl (by decide) ?_
            refine iv_iadd (M := mX12_laysStays) (X := y4.toInt) (Y := 1) dX12_laysStays_43 44 rfl rfl (by decide) (by omega) (by omega) (fun v44 ev44 => ?_)
            refine iv_imul (M := mX12_laysStays) (X := 17) (Y := v44.toInt) dX12_laysStays_44 45 rfl (by decide) rfl (by omega) (by omega) (fun v45 ev45 => ?_)
            refine pv_iload_n (M := mX12_laysStays) 1 dX12_laysStays_45 46 rfl rfl rfl ?_
            refine iv_iadd (M := mX12_laysStays) (X := v45.toInt) (Y := y3.toInt) dX12_laysStays_46 47 rfl rfl rfl (by omega) (by omega) (fun v46 ev46 => ?_)
            refine pv_iconst (M := mX12_laysStays) (v := 1) dX12_laysStays_47 48 rfl (by decide) ?_
            refine iv_iadd (M := mX12_laysStays) (X := v46.toInt) (Y := 1) dX12_laysStays_48 49 rfl rfl (by decide) (by omega) (by omega) (fun v47 ev47 => ?_)
            refine iv_iald (M := mX12_laysStays) (X := v47.toInt) (l1 := 0) (l2 := 1999999998) dX12_laysStays_49 (tl153 hT) rfl (by omega) (by omega) I7 (fun _ => rfl) 50 rfl (fun v48 ev48 pv48 qv48 => ?_)
            have k50 : v48.toInt = (m 153 (17 * (y4.toInt.toNat + 1) + (y3.toInt.toNat + 1))).toInt := congrArg Int32.toInt (ev48.trans ((K8 153 _ rfl).trans (congrArg (m 153) (by omega))))
            refine pv_aload_n (M := mX12_laysStays) 0 dX12_laysStays_50 51 rfl rfl rfl ?_
            refine mv_get (M := mX12_laysStays) (v := .ref 153) dX12_laysStays_51 FX12 46 wd1219 (by decide) (tl123 hT) rfl rfl 54 rfl ?_
            refine pv_bipush (M := mX12_laysStays) (v := 17) dX12_laysStays_54 56 rfl (by decide) ?_
            refine pv_iload_n (M := mX12_laysStays) 2 dX12_laysStays_56 57 rfl rfl rfl ?_
            refine iv_imul (M := mX12_laysStays) (X := 17) (Y := y4.toInt) dX12_laysStays_57 58 rfl (by decide) rfl (by omega) (by omega) (fun v50 ev50 => ?_)
            refine pv_iload_n (M := mX12_laysStays) 1 dX12_laysStays_58 59 rfl rfl rfl ?_
            refine iv_iadd (M := mX12_laysStays) (X := v50.toInt) (Y := y3.toInt) dX12_laysStays_59 60 rfl rfl rfl (by omega) (by omega) (fun v51 ev51 => ?_)
            refine iv_iald (M := mX12_laysStays) (X := v51.toInt) (l1 := 0) (l2 := 1999999998) dX12_laysStays_60 (tl153 hT) rfl (by omega) (by omega) I7 (fun _ => rfl) 61 rfl (fun v52 ev52 pv52 qv52 => ?_)
            have k61 : v52.toInt = (m 153 (17 * y4.toInt.toNat + y3.toInt.toNat)).toInt := congrArg Int32.toInt (ev52.trans ((K8 153 _ rfl).trans (congrArg (m 153) (by omega))))
            refine pv_icmp_eq (M := mX12_laysStays) (tgt := 67) dX12_laysStays_61 64 rfl (by decide) (fun c54 => ?_) (fun c54 => ?_)
            · have c54 := iv_eq (X := v48.toInt) (Y := v52.toInt) c54 rfl rfl
              have k67 := (kI4 (by omega) (by omega)).mp ⟨by rw [← k26, ← k32]; exact i_eq (by omega), by omega⟩
              refine pv_aload_n (M := mX12_laysStays) 0 dX12_laysStays_67 68 rfl rfl rfl ?_
              refine mv_get (M := mX12_laysStays) (v := .ref 154) dX12_laysStays_68 FX12 47 wd1220 (by decide) (tl123 hT) rfl rfl 71 rfl ?_
              refine pv_iload_n (M := mX12_laysStays) 1 dX12_laysStays_71 72 rfl rfl rfl ?_
              refine pv_iload_n (M := mX12_laysStays) 2 dX12_laysStays_72 73 rfl rfl rfl ?_
              refine iv_iast (M := mX12_laysStays) (X := y3.toInt) (l1 := 0) (l2 := 39) dX12_laysStays_73 (tl154 hT) rfl (by omega) (by omega) I7 (fun _ => rfl) (by omega) (by omega) 74 rfl (fun m56 e59 I57 => ?_)
              have K58 := K8.set e59 rfl
              have w60 : (m56 123 40).toInt = (m5 123 40).toInt := by rw [e59, up2_ne (by omega)]
              have w61 : (m56 123 41).toInt = (m5 123 41).toInt := by rw [e59, up2_ne (by omega)]
              refine pv_iload_n (M := mX12_laysStays) 1 dX12_laysStays_74 75 rfl rfl rfl ?_
              refine pv_iconst (M := mX12_laysStays) (v := 1) dX12_laysStays_75 76 rfl (by decide) ?_
              refine iv_iadd (M := mX12_laysStays) (X := y3.toInt) (Y := 1) dX12_laysStays_76 77 rfl rfl (by decide) (by omega) (by omega) (fun v62 ev62 => ?_)
              refine pv_istore_n (M := mX12_laysStays) 1 (lo2 := [.ref 123, .int v62, .int y4]) dX12_laysStays_77 78 rfl rfl (by decide) rfl rfl ?_
              refine iv_inc (M := mX12_laysStays) (C := 1) dX12_laysStays_78 81 rfl rfl (by decide) rfl rfl (by decide) (by omega) (by omega) (fun v63 ev63 => ?_)
              show PV _ _ _ _ _ _ _ 81 [.ref 123, .int v62, .int v63] [] _
              refine pv_goto (M := mX12_laysStays) (tgt := 4) dX12_laysStays_81 (by decide) ?_
              have ke2 : v63.toInt.toNat = (y4.toInt).toNat + 1 := by omega
              have kno : kpp (m 149) (m 150) (cRl m) (m 123 40).toInt.toNat (m 123 41).toInt.toNat (y4.toInt).toNat (jtp (m 149) (m 150) (cRl m) (m 123 40).toInt.toNat (m 123 41).toInt.toNat (y4.toInt).toNat) ∨ ¬ kpp (m 149) (m 150) (cRl m) (m 123 40).toInt.toNat (m 123 41).toInt.toNat (y4.toInt).toNat (jtp (m 149) (m 150) (cRl m) (m 123 40).toInt.toNat (m 123 41).toInt.toNat (y4.toInt).toNat) := by first | exact Or.inl k67 | exact Or.inr (fun q => by have q1 := (kI4 (by omega) (by omega)).mpr q; have q2 := q1.2; omega) | exact Or.inr (fun q => by have q1 := (kI4 (by omega) (by omega)).mpr q; have q2 := congrArg Int32.toInt q1.1; omega)
              have kbj : v62.toInt.toNat = jtp (m 149) (m 150) (cRl m) (m 123 40).toInt.toNat (m 123 41).toInt.toNat v63.toInt.toNat := by rw [ke2]; first | (rw [jtp_y k67, ← kgj]; omega) | (rw [jtp_n (fun q => by have q1 := (kI4 (by omega) (by omega)).mpr q; have q2 := q1.2; omega), ← kgj]) | (rw [jtp_n (fun q => by have q1 := (kI4 (by omega) (by omega)).mpr q; have q2 := congrArg Int32.toInt q1.1; omega), ← kgj])
              have kbs : ∀ p, p < v63.toInt.toNat → kpp (m 149) (m 150) (cRl m) (m 123 40).toInt.toNat (m 123 41).toInt.toNat p (jtp (m 149) (m 150) (cRl m) (m 123 40).toInt.toNat (m 123 41).toInt.toNat p) → (m56 154 (jtp (m 149) (m 150) (cRl m) (m 123 40).toInt.toNat (m 123 41).toInt.toNat p)).toInt = p := fun p hp hk => by rw [ke2] at hp; by_cases z : p = (y4.toInt).toNat; (subst z; first | (rw [e59, up2_at (by omega)]; omega) | exact absurd hk (fun q => by have q1 := (kI4 (by omega) (by omega)).mpr q; have q2 := q1.2; omega) | exact absurd hk (fun q => by have q1 := (kI4 (by omega) (by omega)).mpr q; have q2 := congrArg Int32.toInt q1.1; omega)); (first | (rw [e59, up2_ne (fun q => by have q2 := q.2; have q3 := jtp_lt_of (r := m 149) (dd := m 150) (c := cRl m) (n0 := (m 123 40).toInt.toNat) (n1 := (m 123 41).toInt.toNat) (p := p) (q := (y4.toInt).toNat) hk (by omega); omega)]; exact kgs p (by omega) hk) | exact kgs p (by omega) hk)
              exact ih11 v62 v63 m56 n6 (by first | omega | assumption | exact (iv_rng _).2 | exact (iv_rng _).1 | decide) (by first | omega | assumption | exact (iv_rng _).2 | exact (iv_rng _).1 | decide) (by first | omega | assumption | exact (iv_rng _).2 | exact (iv_rng _).1 | decide) (by first | omega | assumption | exact (iv_rng _).2 | exact (iv_rng _).1 | decide) (by first | omega | assumption | (show v63.toInt ≤ (m 123 40).toInt; omega) | decide) kbj kbs I57 K58 (by omega)
            · have c54 := iv_ne (X := v48.toInt) (Y := v52.toInt) c54 rfl rfl
              refine pv_goto (M := mX12_laysStays) (tgt := 78) dX12_laysStays_64 (by decide) ?_
              refine iv_inc (M := mX12_laysStays) (C := 1) dX12_laysStays_78 81 rfl rfl (by decide) rfl rfl (by decide) (by omega) (by omega) (fun v68 ev68 => ?_)
              show PV _ _ _ _ _ _ _ 81 [.ref 123, .int y3, .int v68] [] _
              refine pv_goto (M := mX12_laysStays) (tgt := 4) dX12_laysStays_81 (by decide) ?_
              have ke2 : v68.toInt.toNat = (y4.toInt).toNat + 1 := by omega
              have kno : kpp (m 149) (m 150) (cRl m) (m 123 40).toInt.toNat (m 123 41).toInt.toNat (y4.toInt).toNat (jtp (m 149) (m 150) (cRl m) (m 123 40).toInt.toNat (m 123 41).toInt.toNat (y4.toInt).toNat) ∨ ¬ kpp (m 149) (m 150) (cRl m) (m 123 40).toInt.toNat (m 123 41).toInt.toNat (y4.toInt).toNat (jtp (m 149) (m 150) (cRl m) (m 123 40).toInt.toNat (m 123 41).toInt.toNat (y4.toInt).toNat) := by first | exact Or.inl k67 | exact Or.inr (fun q => by have q1 := (kI4 (by omega) (by omega)).mpr q; have q2 := q1.2; omega) | exact Or.inr (fun q => by have q1 := (kI4 (by omega) (by omega)).mpr q; have q2 := congrArg Int32.toInt q1.1; omega)
              have kbj : y3.toInt.toNat = jtp (m 149) (m 150) (cRl m) (m 123 40).toInt.toNat (m 123 41).toInt.toNat v68.toInt.toNat := by rw [ke2]; first | (rw [jtp_y k67, ← kgj]; omega) | (rw [jtp_n (fun q => by have q1 := (kI4 (by omega) (by omega)).mpr q; have q2 := q1.2; omega), ← kgj]) | (rw [jtp_n (fun q => by have q1 := (kI4 (by omega) (by omega)).mpr q; have q2 := congrArg Int32.toInt q1.1; omega), ← kgj])
              have kbs : ∀ p, p < v68.toInt.toNat → kpp (m 149) (m 150) (cRl m) (m 123 40).toInt.toNat (m 123 41).toInt.toNat p (jtp (m 149) (m 150) (cRl m) (m 123 40).toInt.toNat (m 123 41).toInt.toNat p) → (m5 154 (jtp (m 149) (m 150) (cRl m) (m 123 40).toInt.toNat (m 123 41).toInt.toNat p)).toInt = p := fun p hp hk => by rw [ke2] at hp; by_cases z : p = (y4.toInt).toNat; (subst z; first | (rw [noE, up2_at (by omega)]; omega) | exact absurd hk (fun q => by have q1 := (kI4 (by omega) (by omega)).mpr q; have q2 := q1.2; omega) | exact absurd hk (fun q => by have q1 := (kI4 (by omega) (by omega)).mpr q; have q2 := congrArg Int32.toInt q1.1; omega)); (first | (rw [noE, up2_ne (fun q => by have q2 := q.2; have q3 := jtp_lt_of (r := m 149) (dd := m 150) (c := cRl m) (n0 := (m 123 40).toInt.toNat) (n1 := (m 123 41).toInt.toNat) (p := p) (q := (y4.toInt).toNat) hk (by omega); omega)]; exact kgs p (by omega) hk) | exact kgs p (by omega) hk)
              exact ih11 y3 v68 m5 n6 (by first | omega | assumption | exact (iv_rng _).2 | exact (iv_rng _).1 | decide) (by first | omega | assumption | exact (iv_rng _).2 | exact (iv_rng _).1 | decide) (by first | omega | assumption | exact (iv_rng _).2 | exact (iv_rng _).1 | decide) (by first | omega | assumption | exact (iv_rng _).2 | exact (iv_rng _).1 | decide) (by first | omega | assumption | (show v68.toInt ≤ (m 123 40).toInt; omega) | decide) kbj kbs I7 K8 (by omega)
  have z73 : (0 : Int32).toInt = 0 := by decide
  have z74 : (0 : Int32).toInt = 0 := by decide
  exact lp10 (((40 - 0) : Int).toNat + 1) 0 0 m n (by first | omega | assumption | exact (iv_rng _).2 | exact (iv_rng _).1 | decide) (by first | omega | assumption | exact (iv_rng _).2 | exact (iv_rng _).1 | decide) (by first | omega | assumption | exact (iv_rng _).2 | exact (iv_rng _).1 | decide) (by first | omega | assumption | exact (iv_rng _).2 | exact (iv_rng _).1 | decide) (by first | omega | assumption | (show 0 ≤ (m 123 40).toInt; omega) | decide) (by (try dsimp only); rw [Int32.toInt_zero]; rfl) (fun p hp => by rw [Int32.toInt_zero] at hp; exact absurd hp (Nat.not_lt_zero _)) I Kp (by omega)
