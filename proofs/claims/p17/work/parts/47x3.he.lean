set_option maxHeartbeats 2000000 in
set_option maxRecDepth 20000 in
theorem s_X8_placeOf_vh (g : pv_G) {T : List mv_T} {m : Nat → Nat → Int32} {n : Nat → Nat → Int64} {r : Nat → Value} (hT : TX T) (I : IV BB m) (aT : Nat) (rmT : Nat) (haT : RowAt T aT rmT) (x0 : Int32) (x1 : Int32) (hl1 : 0 ≤ x1.toInt) (hh1 : x1.toInt ≤ 16) : PM g mX8_placeOf yX8_placeOf (sqP (mk T m n r) (-1) 47 (fun v => v.toInt < (rmT : Int) ∧ NX1 (m aT 1).toInt (rwv m aT) x1.toInt x0.toInt v.toInt)) 1 0 0 [.ref aT, .int x0, .int x1] (mk T m n r) := by
  have Kp : fr (wl []) m m := fr.rf
  have zrT := haT.2.2.2.2
  refine PM.of 1 (lo := [.ref aT, .int x0, .int x1, pv_U]) rfl (by decide) rfl rfl (Nat.le_of_ble_eq_true rfl) ?_
  refine pv_iload_n (M := mX8_placeOf) 2 dX8_placeOf_0 1 rfl rfl rfl ?_
  refine pv_iconst (M := mX8_placeOf) (v := 0) dX8_placeOf_1 2 rfl (by decide) ?_
  refine iv_max (M := mX8_placeOf) (X := x1.toInt) (Y := 0) dX8_placeOf_2 wd184 Wmmax (Nat.le_of_ble_eq_true rfl) (by decide) rfl (by decide) 5 rfl (fun v1 ev1 fv1 gv1 => ?_)
  refine pv_istore_n (M := mX8_placeOf) 3 (lo2 := [.ref aT, .int x0, .int x1, .int v1]) dX8_placeOf_5 6 rfl rfl (by decide) rfl rfl ?_
  have lp8 : ∀ (fuel7 : Nat) (y2 : Int32), (0 ≤ y2.toInt) → (y2.toInt ≤ 48) → (x1.toInt ≤ y2.toInt) → (∀ k : Int, x1.toInt ≤ k → k < y2.toInt → rwv m aT k.toNat ≠ x0.toInt) → ((48 - y2.toInt) : Int).toNat < fuel7 → PV none g mX8_placeOf (sqP (mk T m n r) (-1) 47 (fun v => v.toInt < (rmT : Int) ∧ NX1 (m aT 1).toInt (rwv m aT) x1.toInt x0.toInt v.toInt)) 1 0 0 6 [.ref aT, .int x0, .int x1, .int y2] [] (mk T m n r) := by
    intro fuel7
    induction fuel7 with
    | zero => intro y2 b10 b11 b12 b13 z14; omega
    | succ fuel7 ih9 =>
      intro y2 b10 b11 b12 b13 z14
      have kg := (show ∀ k : Int, x1.toInt ≤ k → k < y2.toInt → rwv m aT k.toNat ≠ x0.toInt by assumption)
      refine pv_iload_n (M := mX8_placeOf) 3 dX8_placeOf_6 7 rfl rfl rfl ?_
      refine pv_aload_n (M := mX8_placeOf) 0 dX8_placeOf_7 8 rfl rfl rfl ?_
      refine iv_get (M := mX8_placeOf) (l1 := 0) (l2 := (rmT : Int)) dX8_placeOf_8 FX8 1 wd193 (by decide) haT.1 rfl I haT.2.2.1 11 rfl (fun v16 ev16 pv16 qv16 => ?_)
      have wv16 : v16.toInt = (m aT 1).toInt := congrArg Int32.toInt ev16
      refine pv_icmp_ge (M := mX8_placeOf) (tgt := 32) dX8_placeOf_11 14 rfl (by decide) (fun c17 => ?_) (fun c17 => ?_)
      · have c17 := iv_le (X := v16.toInt) (Y := y2.toInt) c17 rfl rfl
        refine pv_iconst (M := mX8_placeOf) (v := (-1)) dX8_placeOf_32 33 rfl (by decide) ?_
        have z18 : ((-1) : Int32).toInt = (-1) := by decide
        exact pv_iret (M := mX8_placeOf) dX8_placeOf_33 rfl rfl ⟨_, rfl, rfl, by decide, by decide, ⟨by omega, Or.inl ⟨rfl, fun k a b => kg k a (by omega)⟩⟩⟩
      · have c17 := iv_nle (X := v16.toInt) (Y := y2.toInt) c17 rfl rfl
        refine pv_aload_n (M := mX8_placeOf) 0 dX8_placeOf_14 15 rfl rfl rfl ?_
        refine mv_get (M := mX8_placeOf) (v := .ref (aT + 1)) dX8_placeOf_15 FX8 0 wd187 (by decide) haT.1 rfl rfl 18 rfl ?_
        refine pv_iload_n (M := mX8_placeOf) 3 dX8_placeOf_18 19 rfl rfl rfl ?_
        refine iv_iald (M := mX8_placeOf) (X := y2.toInt) (l1 := (-2147483648)) (l2 := 2147483647) dX8_placeOf_19 haT.2.1 rfl (by omega) (by omega) I haT.2.2.2.1 20 rfl (fun v19 ev19 pv19 qv19 => ?_)
        have k20 : v19.toInt = rwv m aT y2.toInt.toNat := (congrArg Int32.toInt ev19).trans (rwv_at (by omega)).symm
        refine pv_iload_n (M := mX8_placeOf) 1 dX8_placeOf_20 21 rfl rfl rfl ?_
        refine pv_icmp_ne (M := mX8_placeOf) (tgt := 26) dX8_placeOf_21 24 rfl (by decide) (fun c21 => ?_) (fun c21 => ?_)
        · have c21 := iv_ne (X := v19.toInt) (Y := x0.toInt) c21 rfl rfl
          refine iv_inc (M := mX8_placeOf) (C := 1) dX8_placeOf_26 29 rfl rfl (by decide) rfl rfl (by decide) (by omega) (by omega) (fun v22 ev22 => ?_)
          show PV _ _ _ _ _ _ _ 29 [.ref aT, .int x0, .int x1, .int v22] [] _
          refine pv_goto (M := mX8_placeOf) (tgt := 6) dX8_placeOf_29 (by decide) ?_
          have kb : ∀ k : Int, x1.toInt ≤ k → k < v22.toInt → rwv m aT k.toNat ≠ x0.toInt := fun k a b => if z : k = y2.toInt then (by rw [z, ← k20]; omega) else kg k a (by omega)
          exact ih9 v22 (by first | omega | assumption | exact (iv_rng _).2 | exact (iv_rng _).1 | decide) (by first | omega | assumption | exact (iv_rng _).2 | exact (iv_rng _).1 | decide) (by first | omega | assumption | (show x1.toInt ≤ v22.toInt; omega) | decide) kb (by omega)
        · have c21 := iv_eq (X := v19.toInt) (Y := x0.toInt) c21 rfl rfl
          refine pv_iload_n (M := mX8_placeOf) 3 dX8_placeOf_24 25 rfl rfl rfl ?_
          exact pv_iret (M := mX8_placeOf) dX8_placeOf_25 rfl rfl ⟨_, rfl, rfl, by omega, by omega, ⟨by omega, Or.inr ⟨by omega, by omega, by omega, kg⟩⟩⟩
  exact lp8 (((48 - v1.toInt) : Int).toNat + 1) v1 (by first | omega | assumption | exact (iv_rng _).2 | exact (iv_rng _).1 | decide) (by first | omega | assumption | exact (iv_rng _).2 | exact (iv_rng _).1 | decide) (by first | omega | assumption | (show x1.toInt ≤ v1.toInt; omega) | decide) (fun k a b => by exfalso; omega) (by omega)

set_option maxHeartbeats 2000000 in
set_option maxRecDepth 20000 in
theorem s_X5_cell_vh (g : pv_G) {T : List mv_T} {m : Nat → Nat → Int32} {n : Nat → Nat → Int64} {r : Nat → Value} (hT : TX T) (I : IV BB m) (x0 : Int32) (hl0 : 0 ≤ x0.toInt) (hh0 : x0.toInt ≤ 16) (x1 : Int32) (hl1 : 0 ≤ x1.toInt) (hh1 : x1.toInt ≤ 16) (x2 : Int32) (hl2 : 0 ≤ x2.toInt) (hh2 : x2.toInt ≤ 16) : PM g mX5_cell yX5_cell (sqP (mk T m n r) 0 4912 (fun v => v.toInt = (17 * x0.toInt + x1.toInt) * 17 + x2.toInt)) 1 0 0 [.int x0, .int x1, .int x2] (mk T m n r) := by
  have Kp : fr (wl []) m m := fr.rf
  refine PM.of 0 (lo := [.int x0, .int x1, .int x2]) rfl (by decide) rfl rfl (Nat.le_of_ble_eq_true rfl) ?_
  refine pv_iload_n (M := mX5_cell) 0 dX5_cell_0 1 rfl rfl rfl ?_
  refine pv_bipush (M := mX5_cell) (v := 17) dX5_cell_1 3 rfl (by decide) ?_
  refine iv_imul (M := mX5_cell) (X := x0.toInt) (Y := 17) dX5_cell_3 4 rfl rfl (by decide) (by omega) (by omega) (fun v1 ev1 => ?_)
  refine pv_iload_n (M := mX5_cell) 1 dX5_cell_4 5 rfl rfl rfl ?_
  refine iv_iadd (M := mX5_cell) (X := v1.toInt) (Y := x1.toInt) dX5_cell_5 6 rfl rfl rfl (by omega) (by omega) (fun v2 ev2 => ?_)
  refine pv_bipush (M := mX5_cell) (v := 17) dX5_cell_6 8 rfl (by decide) ?_
  refine iv_imul (M := mX5_cell) (X := v2.toInt) (Y := 17) dX5_cell_8 9 rfl rfl (by decide) (by omega) (by omega) (fun v3 ev3 => ?_)
  refine pv_iload_n (M := mX5_cell) 2 dX5_cell_9 10 rfl rfl rfl ?_
  refine iv_iadd (M := mX5_cell) (X := v3.toInt) (Y := x2.toInt) dX5_cell_10 11 rfl rfl rfl (by omega) (by omega) (fun v4 ev4 => ?_)
  exact pv_iret (M := mX5_cell) dX5_cell_11 rfl rfl ⟨_, rfl, rfl, by omega, by omega, (by first | omega | assumption)⟩

set_option maxHeartbeats 2000000 in
set_option maxRecDepth 20000 in
theorem s_X5_mostFrom_vh (g : pv_G) {T : List mv_T} {m : Nat → Nat → Int32} {n : Nat → Nat → Int64} {r : Nat → Value} (hT : TX T) (I : IV BB m) (a0 : Nat) (ha0 : RowAt T a0 16) (a1 : Nat) (ha1 : RowAt T a1 16) (a2 : Nat) (ha2 : RowAt T a2 16) (x3 : Int32) (hl3 : 0 ≤ x3.toInt) (hh3 : x3.toInt ≤ 16) (x4 : Int32) (hl4 : 0 ≤ x4.toInt) (hh4 : x4.toInt ≤ 16) (x5 : Int32) (hl5 : 0 ≤ x5.toInt) (hh5 : x5.toInt ≤ 16) (hp0 : x3.toInt ≤ (m a0 1).toInt) (hp1 : x4.toInt ≤ (m a1 1).toInt) (hp2 : x5.toInt ≤ (m a2 1).toInt) (hp3 : TB3 (nR m (p3 a0 a1 a2)) (sR m (p3 a0 a1 a2)) (Hc m) x3.toInt x4.toInt x5.toInt) : PM g mX5_mostFrom yX5_mostFrom (sqP (mk T m n r) 0 16 (fun v => MX1 (nR m (p3 a0 a1 a2)) (sR m (p3 a0 a1 a2)) x3.toInt x4.toInt x5.toInt v.toInt)) 2 0 0 [.ref 112, .ref a0, .ref a1, .ref a2, .int x3, .int x4, .int x5] (mk T m n r) := by
  have Kp : fr (wl []) m m := fr.rf
  have zr0 := ha0.2.2.2.2
  have zr1 := ha1.2.2.2.2
  have zr2 := ha2.2.2.2.2
  refine PM.of 2 (lo := [.ref 112, .ref a0, .ref a1, .ref a2, .int x3, .int x4, .int x5, pv_U, pv_U]) rfl (by decide) rfl rfl (Nat.le_of_ble_eq_true rfl) ?_
  have kz0 : 0 ≤ (m a0 1).toInt ∧ (m a0 1).toInt ≤ 16 := by have z := I a0 1; rw [ha0.2.2.1] at z; exact z
  have kz1 : 0 ≤ (m a1 1).toInt ∧ (m a1 1).toInt ≤ 16 := by have z := I a1 1; rw [ha1.2.2.1] at z; exact z
  have kz2 : 0 ≤ (m a2 1).toInt ∧ (m a2 1).toInt ≤ 16 := by have z := I a2 1; rw [ha2.2.2.1] at z; exact z
  have kn0 : nR m (p3 a0 a1 a2) 0 = (m a0 1).toInt := rfl
  have kn1 : nR m (p3 a0 a1 a2) 1 = (m a1 1).toInt := rfl
  have kn2 : nR m (p3 a0 a1 a2) 2 = (m a2 1).toInt := rfl
  refine pv_iload (M := mX5_mostFrom) dX5_mostFrom_0 2 rfl rfl ?_
  refine pv_aload_n (M := mX5_mostFrom) 1 dX5_mostFrom_2 3 rfl rfl rfl ?_
  refine iv_get (M := mX5_mostFrom) (l1 := 0) (l2 := 16) dX5_mostFrom_3 FX8 1 wd196 (by decide) ha0.1 rfl I ha0.2.2.1 6 rfl (fun v7 ev7 pv7 qv7 => ?_)
  have wv7 : v7.toInt = (m a0 1).toInt := congrArg Int32.toInt ev7
  refine pv_icmp_eq (M := mX5_mostFrom) (tgt := 27) dX5_mostFrom_6 9 rfl (by decide) (fun c8 => ?_) (fun c8 => ?_)
  · have c8 := iv_eq (X := x3.toInt) (Y := v7.toInt) c8 rfl rfl
    refine pv_iconst (M := mX5_mostFrom) (v := 0) dX5_mostFrom_27 28 rfl (by decide) ?_
    have z9 : (0 : Int32).toInt = 0 := by decide
    exact pv_iret (M := mX5_mostFrom) dX5_mostFrom_28 rfl rfl ⟨_, rfl, rfl, by decide, by decide, (MX1_end (by omega))⟩
  · have c8 := iv_ne (X := x3.toInt) (Y := v7.toInt) c8 rfl rfl
    refine pv_iload (M := mX5_mostFrom) dX5_mostFrom_9 11 rfl rfl ?_
    refine pv_aload_n (M := mX5_mostFrom) 2 dX5_mostFrom_11 12 rfl rfl rfl ?_
    refine iv_get (M := mX5_mostFrom) (l1 := 0) (l2 := 16) dX5_mostFrom_12 FX8 1 wd196 (by decide) ha1.1 rfl I ha1.2.2.1 15 rfl (fun v10 ev10 pv10 qv10 => ?_)
    have wv10 : v10.toInt = (m a1 1).toInt := congrArg Int32.toInt ev10
    refine pv_icmp_eq (M := mX5_mostFrom) (tgt := 27) dX5_mostFrom_15 18 rfl (by decide) (fun c11 => ?_) (fun c11 => ?_)
    · have c11 := iv_eq (X := x4.toInt) (Y := v10.toInt) c11 rfl rfl
      refine pv_iconst (M := mX5_mostFrom) (v := 0) dX5_mostFrom_27 28 rfl (by decide) ?_
      have z12 : (0 : Int32).toInt = 0 := by decide
      exact pv_iret (M := mX5_mostFrom) dX5_mostFrom_28 rfl rfl ⟨_, rfl, rfl, by decide, by decide, (MX1_end (by omega))⟩
    · have c11 := iv_ne (X := x4.toInt) (Y := v10.toInt) c11 rfl rfl
      refine pv_iload (M := mX5_mostFrom) dX5_mostFrom_18 20 rfl rfl ?_
      refine pv_aload_n (M := mX5_mostFrom) 3 dX5_mostFrom_20 21 rfl rfl rfl ?_
      refine iv_get (M := mX5_mostFrom) (l1 := 0) (l2 := 16) dX5_mostFrom_21 FX8 1 wd196 (by decide) ha2.1 rfl I ha2.2.2.1 24 rfl (fun v13 ev13 pv13 qv13 => ?_)
      have wv13 : v13.toInt = (m a2 1).toInt := congrArg Int32.toInt ev13
      refine pv_icmp_ne (M := mX5_mostFrom) (tgt := 29) dX5_mostFrom_24 27 rfl (by decide) (fun c14 => ?_) (fun c14 => ?_)
      · have c14 := iv_ne (X := x5.toInt) (Y := v13.toInt) c14 rfl rfl
        refine pv_aload_n (M := mX5_mostFrom) 1 dX5_mostFrom_29 30 rfl rfl rfl ?_
        refine mv_get (M := mX5_mostFrom) (v := .ref (a0 + 1)) dX5_mostFrom_30 FX8 0 wd191 (by decide) ha0.1 rfl rfl 33 rfl ?_
        refine pv_iload (M := mX5_mostFrom) dX5_mostFrom_33 35 rfl rfl ?_
        refine iv_iald (M := mX5_mostFrom) (X := x3.toInt) (l1 := (-2147483648)) (l2 := 2147483647) dX5_mostFrom_35 ha0.2.1 rfl (by omega) (by omega) I ha0.2.2.2.1 36 rfl (fun v15 ev15 pv15 qv15 => ?_)
        have k36 : v15.toInt = sR m (p3 a0 a1 a2) 0 x3.toInt.toNat := show v15.toInt = rwv m a0 x3.toInt.toNat from (congrArg Int32.toInt ev15).trans (rwv_at (by omega)).symm
        refine pv_istore (M := mX5_mostFrom) (lo2 := [.ref 112, .ref a0, .ref a1, .ref a2, .int x3, .int x4, .int x5, .int v15, pv_U]) dX5_mostFrom_36 38 rfl (by decide) rfl rfl ?_
        refine pv_iload (M := mX5_mostFrom) dX5_mostFrom_38 40 rfl rfl ?_
        refine pv_aload_n (M := mX5_mostFrom) 2 dX5_mostFrom_40 41 rfl rfl rfl ?_
        refine mv_get (M := mX5_mostFrom) (v := .ref (a1 + 1)) dX5_mostFrom_41 FX8 0 wd191 (by decide) ha1.1 rfl rfl 44 rfl ?_
        refine pv_iload (M := mX5_mostFrom) dX5_mostFrom_44 46 rfl rfl ?_
        refine iv_iald (M := mX5_mostFrom) (X := x4.toInt) (l1 := (-2147483648)) (l2 := 2147483647) dX5_mostFrom_46 ha1.2.1 rfl (by omega) (by omega) I ha1.2.2.2.1 47 rfl (fun v17 ev17 pv17 qv17 => ?_)
        have k47 : v17.toInt = sR m (p3 a0 a1 a2) 1 x4.toInt.toNat := show v17.toInt = rwv m a1 x4.toInt.toNat from (congrArg Int32.toInt ev17).trans (rwv_at (by omega)).symm
        refine pv_icmp_ne (M := mX5_mostFrom) (tgt := 85) dX5_mostFrom_47 50 rfl (by decide) (fun c19 => ?_) (fun c19 => ?_)
        · have c19 := iv_ne (X := v15.toInt) (Y := v17.toInt) c19 rfl rfl
          refine pv_aload_n (M := mX5_mostFrom) 0 dX5_mostFrom_85 86 rfl rfl rfl ?_
          refine mv_get (M := mX5_mostFrom) (v := .ref 115) dX5_mostFrom_86 FX5 2 wd374 (by decide) (tl112 hT) rfl rfl 89 rfl ?_
          refine pv_iload (M := mX5_mostFrom) dX5_mostFrom_89 91 rfl rfl ?_
          refine pv_iconst (M := mX5_mostFrom) (v := 1) dX5_mostFrom_91 92 rfl (by decide) ?_
          refine iv_iadd (M := mX5_mostFrom) (X := x3.toInt) (Y := 1) dX5_mostFrom_92 93 rfl rfl (by decide) (by omega) (by omega) (fun v20 ev20 => ?_)
          refine pv_iload (M := mX5_mostFrom) dX5_mostFrom_93 95 rfl rfl ?_
          refine pv_iload (M := mX5_mostFrom) dX5_mostFrom_95 97 rfl rfl ?_
          refine pv_calls (M := mX5_mostFrom) (as := [.int v20, .int x4, .int x5]) (st := [.ref 115]) (kc2 := 0) (ks2 := 0) dX5_mostFrom_97 wd938 YX5_cell wd939 (s_X5_cell_vh g hT I v20 (by omega) (by omega) x4 (by omega) (by omega) x5 (by omega) (by omega)) rfl rfl (Nat.le_of_ble_eq_true rfl) (by decide) rfl rfl 100 rfl (fun rv h1 q21 => ?_)
          obtain ⟨v22, rfl, rfl, pv22, qv22, rv22⟩ := q21
          replace rv22 : v22.toInt = (17 * v20.toInt + x4.toInt) * 17 + x5.toInt := rv22
          show PV _ _ _ _ _ _ _ 100 [.ref 112, .ref a0, .ref a1, .ref a2, .int x3, .int x4, .int x5, .int v15, pv_U] [.int v22, .ref 115] _
          have k100 := rv22
          refine iv_iald (M := mX5_mostFrom) (X := v22.toInt) (l1 := (-2147483648)) (l2 := 2147483647) dX5_mostFrom_100 (tl115 hT) rfl (by omega) (by omega) I (fun _ => rfl) 101 rfl (fun v24 ev24 pv24 qv24 => ?_)
          have k101 : v24.toInt = Hc m (x3.toInt + 1) (x4.toInt) (x5.toInt) := (congrArg Int32.toInt ev24).trans (congrArg (fun z => (m 115 z).toInt) (by unfold hidx; omega))
          have kA := hp3 (x3.toInt + 1) (x4.toInt) (x5.toInt) ⟨by omega, by omega, by omega, by omega, by omega, by omega⟩ (Or.inl (by omega))
          have kA0 := kA.1
          have kA1 := MX1_le kA (by omega)
          refine pv_aload_n (M := mX5_mostFrom) 0 dX5_mostFrom_101 102 rfl rfl rfl ?_
          refine mv_get (M := mX5_mostFrom) (v := .ref 115) dX5_mostFrom_102 FX5 2 wd374 (by decide) (tl112 hT) rfl rfl 105 rfl ?_
          refine pv_iload (M := mX5_mostFrom) dX5_mostFrom_105 107 rfl rfl ?_
          refine pv_iload (M := mX5_mostFrom) dX5_mostFrom_107 109 rfl rfl ?_
          refine pv_iconst (M := mX5_mostFrom) (v := 1) dX5_mostFrom_109 110 rfl (by decide) ?_
          refine iv_iadd (M := mX5_mostFrom) (X := x4.toInt) (Y := 1) dX5_mostFrom_110 111 rfl rfl (by decide) (by omega) (by omega) (fun v29 ev29 => ?_)
          refine pv_iload (M := mX5_mostFrom) dX5_mostFrom_111 113 rfl rfl ?_
          refine pv_calls (M := mX5_mostFrom) (as := [.int x3, .int v29, .int x5]) (st := [.ref 115, .int v24]) (kc2 := 0) (ks2 := 0) dX5_mostFrom_113 wd938 YX5_cell wd939 (s_X5_cell_vh g hT I x3 (by omega) (by omega) v29 (by omega) (by omega) x5 (by omega) (by omega)) rfl rfl (Nat.le_of_ble_eq_true rfl) (by decide) rfl rfl 116 rfl (fun rv h1 q30 => ?_)
          obtain ⟨v31, rfl, rfl, pv31, qv31, rv31⟩ := q30
          replace rv31 : v31.toInt = (17 * x3.toInt + v29.toInt) * 17 + x5.toInt := rv31
          show PV _ _ _ _ _ _ _ 116 [.ref 112, .ref a0, .ref a1, .ref a2, .int x3, .int x4, .int x5, .int v15, pv_U] [.int v31, .ref 115, .int v24] _
          have k116 := rv31
          refine iv_iald (M := mX5_mostFrom) (X := v31.toInt) (l1 := (-2147483648)) (l2 := 2147483647) dX5_mostFrom_116 (tl115 hT) rfl (by omega) (by omega) I (fun _ => rfl) 117 rfl (fun v33 ev33 pv33 qv33 => ?_)
          have k117 : v33.toInt = Hc m (x3.toInt) (x4.toInt + 1) (x5.toInt) := (congrArg Int32.toInt ev33).trans (congrArg (fun z => (m 115 z).toInt) (by unfold hidx; omega))
          have kB := hp3 (x3.toInt) (x4.toInt + 1) (x5.toInt) ⟨by omega, by omega, by omega, by omega, by omega, by omega⟩ (Or.inr ⟨rfl, Or.inl (by omega)⟩)
          have kB0 := kB.1
          have kB1 := MX1_le kB (by omega)
          refine iv_max (M := mX5_mostFrom) (X := v24.toInt) (Y := v33.toInt) dX5_mostFrom_117 wd945 Wmmax (Nat.le_of_ble_eq_true rfl) (by decide) rfl rfl 120 rfl (fun v38 ev38 fv38 gv38 => ?_)
          refine pv_istore (M := mX5_mostFrom) (lo2 := [.ref 112, .ref a0, .ref a1, .ref a2, .int x3, .int x4, .int x5, .int v15, .int v38]) dX5_mostFrom_120 122 rfl (by decide) rfl rfl ?_
          refine pv_iload (M := mX5_mostFrom) dX5_mostFrom_122 124 rfl rfl ?_
          refine pv_aload_n (M := mX5_mostFrom) 0 dX5_mostFrom_124 125 rfl rfl rfl ?_
          refine mv_get (M := mX5_mostFrom) (v := .ref 115) dX5_mostFrom_125 FX5 2 wd374 (by decide) (tl112 hT) rfl rfl 128 rfl ?_
          refine pv_iload (M := mX5_mostFrom) dX5_mostFrom_128 130 rfl rfl ?_
          refine pv_iload (M := mX5_mostFrom) dX5_mostFrom_130 132 rfl rfl ?_
          refine pv_iload (M := mX5_mostFrom) dX5_mostFrom_132 134 rfl rfl ?_
          refine pv_iconst (M := mX5_mostFrom) (v := 1) dX5_mostFrom_134 135 rfl (by decide) ?_
          refine iv_iadd (M := mX5_mostFrom) (X := x5.toInt) (Y := 1) dX5_mostFrom_135 136 rfl rfl (by decide) (by omega) (by omega) (fun v39 ev39 => ?_)
          refine pv_calls (M := mX5_mostFrom) (as := [.int x3, .int x4, .int v39]) (st := [.ref 115, .int v38]) (kc2 := 0) (ks2 := 0) dX5_mostFrom_136 wd938 YX5_cell wd939 (s_X5_cell_vh g hT I x3 (by omega) (by omega) x4 (by omega) (by omega) v39 (by omega) (by omega)) rfl rfl (Nat.le_of_ble_eq_true rfl) (by decide) rfl rfl 139 rfl (fun rv h1 q40 => ?_)
          obtain ⟨v41, rfl, rfl, pv41, qv41, rv41⟩ := q40
          replace rv41 : v41.toInt = (17 * x3.toInt + x4.toInt) * 17 + v39.toInt := rv41
          show PV _ _ _ _ _ _ _ 139 [.ref 112, .ref a0, .ref a1, .ref a2, .int x3, .int x4, .int x5, .int v15, .int v38] [.int v41, .ref 115, .int v38] _
          have k139 := rv41
          refine iv_iald (M := mX5_mostFrom) (X := v41.toInt) (l1 := (-2147483648)) (l2 := 2147483647) dX5_mostFrom_139 (tl115 hT) rfl (by omega) (by omega) I (fun _ => rfl) 140 rfl (fun v43 ev43 pv43 qv43 => ?_)
          have k140 : v43.toInt = Hc m (x3.toInt) (x4.toInt) (x5.toInt + 1) := (congrArg Int32.toInt ev43).trans (congrArg (fun z => (m 115 z).toInt) (by unfold hidx; omega))
          have kC := hp3 (x3.toInt) (x4.toInt) (x5.toInt + 1) ⟨by omega, by omega, by omega, by omega, by omega, by omega⟩ (Or.inr ⟨rfl, Or.inr ⟨rfl, by omega⟩⟩)
          have kC0 := kC.1
          have kC1 := MX1_le kC (by omega)
          refine iv_max (M := mX5_mostFrom) (X := v38.toInt) (Y := v43.toInt) dX5_mostFrom_140 wd945 Wmmax (Nat.le_of_ble_eq_true rfl) (by decide) rfl rfl 143 rfl (fun v48 ev48 fv48 gv48 => ?_)
          exact pv_iret (M := mX5_mostFrom) dX5_mostFrom_143 rfl rfl ⟨_, rfl, rfl, by omega, by omega, (MX1_ne (fun q => by have q1 := q.1; have q2 := q.2; omega) kA kB kC (by omega))⟩
        · have c19 := iv_eq (X := v15.toInt) (Y := v17.toInt) c19 rfl rfl
          refine pv_iload (M := mX5_mostFrom) dX5_mostFrom_50 52 rfl rfl ?_
          refine pv_aload_n (M := mX5_mostFrom) 3 dX5_mostFrom_52 53 rfl rfl rfl ?_
          refine mv_get (M := mX5_mostFrom) (v := .ref (a2 + 1)) dX5_mostFrom_53 FX8 0 wd191 (by decide) ha2.1 rfl rfl 56 rfl ?_
          refine pv_iload (M := mX5_mostFrom) dX5_mostFrom_56 58 rfl rfl ?_
          refine iv_iald (M := mX5_mostFrom) (X := x5.toInt) (l1 := (-2147483648)) (l2 := 2147483647) dX5_mostFrom_58 ha2.2.1 rfl (by omega) (by omega) I ha2.2.2.2.1 59 rfl (fun v49 ev49 pv49 qv49 => ?_)
          have k59 : v49.toInt = sR m (p3 a0 a1 a2) 2 x5.toInt.toNat := show v49.toInt = rwv m a2 x5.toInt.toNat from (congrArg Int32.toInt ev49).trans (rwv_at (by omega)).symm
          refine pv_icmp_ne (M := mX5_mostFrom) (tgt := 85) dX5_mostFrom_59 62 rfl (by decide) (fun c51 => ?_) (fun c51 => ?_)
          · have c51 := iv_ne (X := v15.toInt) (Y := v49.toInt) c51 rfl rfl
            refine pv_aload_n (M := mX5_mostFrom) 0 dX5_mostFrom_85 86 rfl rfl rfl ?_
            refine mv_get (M := mX5_mostFrom) (v := .ref 115) dX5_mostFrom_86 FX5 2 wd374 (by decide) (tl112 hT) rfl rfl 89 rfl ?_
            refine pv_iload (M := mX5_mostFrom) dX5_mostFrom_89 91 rfl rfl ?_
            refine pv_iconst (M := mX5_mostFrom) (v := 1) dX5_mostFrom_91 92 rfl (by decide) ?_
            refine iv_iadd (M := mX5_mostFrom) (X := x3.toInt) (Y := 1) dX5_mostFrom_92 93 rfl rfl (by decide) (by omega) (by omega) (fun v52 ev52 => ?_)
            refine pv_iload (M := mX5_mostFrom) dX5_mostFrom_93 95 rfl rfl ?_
            refine pv_iload (M := mX5_mostFrom) dX5_mostFrom_95 97 rfl rfl ?_
            refine pv_calls (M := mX5_mostFrom) (as := [.int v52, .int x4, .int x5]) (st := [.ref 115]) (kc2 := 0) (ks2 := 0) dX5_mostFrom_97 wd938 YX5_cell wd939 (s_X5_cell_vh g hT I v52 (by omega) (by omega) x4 (by omega) (by omega) x5 (by omega) (by omega)) rfl rfl (Nat.le_of_ble_eq_true rfl) (by decide) rfl rfl 100 rfl (fun rv h1 q53 => ?_)
            obtain ⟨v54, rfl, rfl, pv54, qv54, rv54⟩ := q53
            replace rv54 : v54.toInt = (17 * v52.toInt + x4.toInt) * 17 + x5.toInt := rv54
            show PV _ _ _ _ _ _ _ 100 [.ref 112, .ref a0, .ref a1, .ref a2, .int x3, .int x4, .int x5, .int v15, pv_U] [.int v54, .ref 115] _
            have k100 := rv54
            refine iv_iald (M := mX5_mostFrom) (X := v54.toInt) (l1 := (-2147483648)) (l2 := 2147483647) dX5_mostFrom_100 (tl115 hT) rfl (by omega) (by omega) I (fun _ => rfl) 101 rfl (fun v56 ev56 pv56 qv56 => ?_)
            have k101 : v56.toInt = Hc m (x3.toInt + 1) (x4.toInt) (x5.toInt) := (congrArg Int32.toInt ev56).trans (congrArg (fun z => (m 115 z).toInt) (by unfold hidx; omega))
            have kA := hp3 (x3.toInt + 1) (x4.toInt) (x5.toInt) ⟨by omega, by omega, by omega, by omega, by omega, by omega⟩ (Or.inl (by omega))
            have kA0 := kA.1
            have kA1 := MX1_le kA (by omega)
            refine pv_aload_n (M := mX5_mostFrom) 0 dX5_mostFrom_101 102 rfl rfl rfl ?_
            refine mv_get (M := mX5_mostFrom) (v := .ref 115) dX5_mostFrom_102 FX5 2 wd374 (by decide) (tl112 hT) rfl rfl 105 rfl ?_
            refine pv_iload (M := mX5_mostFrom) dX5_mostFrom_105 107 rfl rfl ?_
            refine pv_iload (M := mX5_mostFrom) dX5_mostFrom_107 109 rfl rfl ?_
            refine pv_iconst (M := mX5_mostFrom) (v := 1) dX5_mostFrom_109 110 rfl (by decide) ?_
            refine iv_iadd (M := mX5_mostFrom) (X := x4.toInt) (Y := 1) dX5_mostFrom_110 111 rfl rfl (by decide) (by omega) (by omega) (fun v61 ev61 => ?_)
            refine pv_iload (M := mX5_mostFrom) dX5_mostFrom_111 113 rfl rfl ?_
            refine pv_calls (M := mX5_mostFrom) (as := [.int x3, .int v61, .int x5]) (st := [.ref 115, .int v56]) (kc2 := 0) (ks2 := 0) dX5_mostFrom_113 wd938 YX5_cell wd939 (s_X5_cell_vh g hT I x3 (by omega) (by omega) v61 (by omega) (by omega) x5 (by omega) (by omega)) rfl rfl (Nat.le_of_ble_eq_true rfl) (by decide) rfl rfl 116 rfl (fun rv h1 q62 => ?_)
            obtain ⟨v63, rfl, rfl, pv63, qv63, rv63⟩ := q62
            replace rv63 : v63.toInt = (17 * x3.toInt + v61.toInt) * 17 + x5.toInt := rv63
            show PV _ _ _ _ _ _ _ 116 [.ref 112, .ref a0, .ref a1, .ref a2, .int x3, .int x4, .int x5, .int v15, pv_U] [.int v63, .ref 115, .int v56] _
            have k116 := rv63
            refine iv_iald (M := mX5_mostFrom) (X := v63.toInt) (l1 := (-2147483648)) (l2 := 2147483647) dX5_mostFrom_116 (tl115 hT) rfl (by omega) (by omega) I (fun _ => rfl) 117 rfl (fun v65 ev65 pv65 qv65 => ?_)
            have k117 : v65.toInt = Hc m (x3.toInt) (x4.toInt + 1) (x5.toInt) := (congrArg Int32.toInt ev65).trans (congrArg (fun z => (m 115 z).toInt) (by unfold hidx; omega))
            have kB := hp3 (x3.toInt) (x4.toInt + 1) (x5.toInt) ⟨by omega, by omega, by omega, by omega, by omega, by omega⟩ (Or.inr ⟨rfl, Or.inl (by omega)⟩)
            have kB0 := kB.1
            have kB1 := MX1_le kB (by omega)
            refine iv_max (M := mX5_mostFrom) (X := v56.toInt) (Y := v65.toInt) dX5_mostFrom_117 wd945 Wmmax (Nat.le_of_ble_eq_true rfl) (by decide) rfl rfl 120 rfl (fun v70 ev70 fv70 gv70 => ?_)
            refine pv_istore (M := mX5_mostFrom) (lo2 := [.ref 112, .ref a0, .ref a1, .ref a2, .int x3, .int x4, .int x5, .int v15, .int v70]) dX5_mostFrom_120 122 rfl (by decide) rfl rfl ?_
            refine pv_iload (M := mX5_mostFrom) dX5_mostFrom_122 124 rfl rfl ?_
            refine pv_aload_n (M := mX5_mostFrom) 0 dX5_mostFrom_124 125 rfl rfl rfl ?_
            refine mv_get (M := mX5_mostFrom) (v := .ref 115) dX5_mostFrom_125 FX5 2 wd374 (by decide) (tl112 hT) rfl rfl 128 rfl ?_
            refine pv_iload (M := mX5_mostFrom) dX5_mostFrom_128 130 rfl rfl ?_
            refine pv_iload (M := mX5_mostFrom) dX5_mostFrom_130 132 rfl rfl ?_
            refine pv_iload (M := mX5_mostFrom) dX5_mostFrom_132 134 rfl rfl ?_
            refine pv_iconst (M := mX5_mostFrom) (v := 1) dX5_mostFrom_134 135 rfl (by decide) ?_
            refine iv_iadd (M := mX5_mostFrom) (X := x5.toInt) (Y := 1) dX5_mostFrom_135 136 rfl rfl (by decide) (by omega) (by omega) (fun v71 ev71 => ?_)
            refine pv_calls (M := mX5_mostFrom) (as := [.int x3, .int x4, .int v71]) (st := [.ref 115, .int v70]) (kc2 := 0) (ks2 := 0) dX5_mostFrom_136 wd938 YX5_cell wd939 (s_X5_cell_vh g hT I x3 (by omega) (by omega) x4 (by omega) (by omega) v71 (by omega) (by omega)) rfl rfl (Nat.le_of_ble_eq_true rfl) (by decide) rfl rfl 139 rfl (fun rv h1 q72 => ?_)
            obtain ⟨v73, rfl, rfl, pv73, qv73, rv73⟩ := q72
            replace rv73 : v73.toInt = (17 * x3.toInt + x4.toInt) * 17 + v71.toInt := rv73
            show PV _ _ _ _ _ _ _ 139 [.ref 112, .ref a0, .ref a1, .ref a2, .int x3, .int x4, .int x5, .int v15, .int v70] [.int v73, .ref 115, .int v70] _
            have k139 := rv73
            refine iv_iald (M := mX5_mostFrom) (X := v73.toInt) (l1 := (-2147483648)) (l2 := 2147483647) dX5_mostFrom_139 (tl115 hT) rfl (by omega) (by omega) I (fun _ => rfl) 140 rfl (fun v75 ev75 pv75 qv75 => ?_)
            have k140 : v75.toInt = Hc m (x3.toInt) (x4.toInt) (x5.toInt + 1) := (congrArg Int32.toInt ev75).trans (congrArg (fun z => (m 115 z).toInt) (by unfold hidx; omega))
            have kC := hp3 (x3.toInt) (x4.toInt) (x5.toInt + 1) ⟨by omega, by omega, by omega, by omega, by omega, by omega⟩ (Or.inr ⟨rfl, Or.inr ⟨rfl, by omega⟩⟩)
            have kC0 := kC.1
            have kC1 := MX1_le kC (by omega)
            refine iv_max (M := mX5_mostFrom) (X := v70.toInt) (Y := v75.toInt) dX5_mostFrom_140 wd945 Wmmax (Nat.le_of_ble_eq_true rfl) (by decide) rfl rfl 143 rfl (fun v80 ev80 fv80 gv80 => ?_)
            exact pv_iret (M := mX5_mostFrom) dX5_mostFrom_143 rfl rfl ⟨_, rfl, rfl, by omega, by omega, (MX1_ne (fun q => by have q1 := q.1; have q2 := q.2; omega) kA kB kC (by omega))⟩
          · have c51 := iv_eq (X := v15.toInt) (Y := v49.toInt) c51 rfl rfl
            refine pv_iconst (M := mX5_mostFrom) (v := 1) dX5_mostFrom_62 63 rfl (by decide) ?_
            refine pv_aload_n (M := mX5_mostFrom) 0 dX5_mostFrom_63 64 rfl rfl rfl ?_
            refine mv_get (M := mX5_mostFrom) (v := .ref 115) dX5_mostFrom_64 FX5 2 wd374 (by decide) (tl112 hT) rfl rfl 67 rfl ?_
            refine pv_iload (M := mX5_mostFrom) dX5_mostFrom_67 69 rfl rfl ?_
            refine pv_iconst (M := mX5_mostFrom) (v := 1) dX5_mostFrom_69 70 rfl (by decide) ?_
            refine iv_iadd (M := mX5_mostFrom) (X := x3.toInt) (Y := 1) dX5_mostFrom_70 71 rfl rfl (by decide) (by omega) (by omega) (fun v81 ev81 => ?_)
            refine pv_iload (M := mX5_mostFrom) dX5_mostFrom_71 73 rfl rfl ?_
            refine pv_iconst (M := mX5_mostFrom) (v := 1) dX5_mostFrom_73 74 rfl (by decide) ?_
            refine iv_iadd (M := mX5_mostFrom) (X := x4.toInt) (Y := 1) dX5_mostFrom_74 75 rfl rfl (by decide) (by omega) (by omega) (fun v82 ev82 => ?_)
            refine pv_iload (M := mX5_mostFrom) dX5_mostFrom_75 77 rfl rfl ?_
            refine pv_iconst (M := mX5_mostFrom) (v := 1) dX5_mostFrom_77 78 rfl (by decide) ?_
            refine iv_iadd (M := mX5_mostFrom) (X := x5.toInt) (Y := 1) dX5_mostFrom_78 79 rfl rfl (by decide) (by omega) (by omega) (fun v83 ev83 => ?_)
            refine pv_calls (M := mX5_mostFrom) (as := [.int v81, .int v82, .int v83]) (st := [.ref 115, .int 1]) (kc2 := 0) (ks2 := 0) dX5_mostFrom_79 wd938 YX5_cell wd939 (s_X5_cell_vh g hT I v81 (by omega) (by omega) v82 (by omega) (by omega) v83 (by omega) (by omega)) rfl rfl (Nat.le_of_ble_eq_true rfl) (by decide) rfl rfl 82 rfl (fun rv h1 q84 => ?_)
            obtain ⟨v85, rfl, rfl, pv85, qv85, rv85⟩ := q84
            replace rv85 : v85.toInt = (17 * v81.toInt + v82.toInt) * 17 + v83.toInt := rv85
            show PV _ _ _ _ _ _ _ 82 [.ref 112, .ref a0, .ref a1, .ref a2, .int x3, .int x4, .int x5, .int v15, pv_U] [.int v85, .ref 115, .int 1] _
            have k82 := rv85
            refine iv_iald (M := mX5_mostFrom) (X := v85.toInt) (l1 := (-2147483648)) (l2 := 2147483647) dX5_mostFrom_82 (tl115 hT) rfl (by omega) (by omega) I (fun _ => rfl) 83 rfl (fun v87 ev87 pv87 qv87 => ?_)
            have k83 : v87.toInt = Hc m (x3.toInt + 1) (x4.toInt + 1) (x5.toInt + 1) := (congrArg Int32.toInt ev87).trans (congrArg (fun z => (m 115 z).toInt) (by unfold hidx; omega))
            have kM := hp3 (x3.toInt + 1) (x4.toInt + 1) (x5.toInt + 1) ⟨by omega, by omega, by omega, by omega, by omega, by omega⟩ (Or.inl (by omega))
            have kM0 := kM.1
            have kM1 := MX1_le kM (by omega)
            refine iv_iadd (M := mX5_mostFrom) (X := 1) (Y := v87.toInt) dX5_mostFrom_83 84 rfl (by decide) rfl (by omega) (by omega) (fun v92 ev92 => ?_)
            exact pv_iret (M := mX5_mostFrom) dX5_mostFrom_84 rfl rfl ⟨_, rfl, rfl, by omega, by omega, (by have q := MX1_eq (a := x3.toInt) (b := x4.toInt) (c := x5.toInt) ⟨by omega, by omega⟩ ⟨by omega, by omega⟩ ⟨by omega, by omega⟩ (by omega) (by omega) kM; rw [show 1 + Hc m (x3.toInt + 1) (x4.toInt + 1) (x5.toInt + 1) = v92.toInt by omega] at q; exact q)⟩
      · have c14 := iv_eq (X := x5.toInt) (Y := v13.toInt) c14 rfl rfl
        refine pv_iconst (M := mX5_mostFrom) (v := 0) dX5_mostFrom_27 28 rfl (by decide) ?_
        have z93 : (0 : Int32).toInt = 0 := by decide
        exact pv_iret (M := mX5_mostFrom) dX5_mostFrom_28 rfl rfl ⟨_, rfl, rfl, by decide, by decide, (MX1_end (by omega))⟩

set_option maxHeartbeats 2000000 in
set_option maxRecDepth 20000 in
theorem s_X5_trace_vh (g : pv_G) {T : List mv_T} {m : Nat → Nat → Int32} {n : Nat → Nat → Int64} {r : Nat → Value} (hT : TX T) (I : IV BB m) (a0 : Nat) (ha0 : RowAt T a0 16) (a1 : Nat) (ha1 : RowAt T a1 16) (a2 : Nat) (ha2 : RowAt T a2 16) (hp0 : TM3 (nR m (p3 a0 a1 a2)) (sR m (p3 a0 a1 a2)) (Hc m)) (hp1 : 61 ≤ a0 ∧ a0 ≤ 75) (hp2 : 61 ≤ a1 ∧ a1 ≤ 75) (hp3 : 61 ≤ a2 ∧ a2 ≤ 75) : PM g mX5_trace yX5_trace (sqV T BB (wl [(113, 114, none)]) r m (fun m' => HSF (nR m (p3 a0 a1 a2)) (sR m (p3 a0 a1 a2)) (m' 113 1).toInt (fun q => (m' 114 q).toInt))) 2 0 0 [.ref 112, .ref a0, .ref a1, .ref a2] (mk T m n r) := by
  have Kp : fr (wl [(113, 114, none)]) m m := fr.rf
  have zr0 := ha0.2.2.2.2
  have zr1 := ha1.2.2.2.2
  have zr2 := ha2.2.2.2.2
  refine PM.of 9 (lo := [.ref 112, .ref a0, .ref a1, .ref a2, pv_U, pv_U, pv_U, pv_U, pv_U, pv_U, pv_U, pv_U, pv_U]) rfl (by decide) rfl rfl (Nat.le_of_ble_eq_true rfl) ?_
  have kz0 : 0 ≤ (m a0 1).toInt ∧ (m a0 1).toInt ≤ 16 := by have z := I a0 1; rw [ha0.2.2.1] at z; exact z
  have kz1 : 0 ≤ (m a1 1).toInt ∧ (m a1 1).toInt ≤ 16 := by have z := I a1 1; rw [ha1.2.2.1] at z; exact z
  have kz2 : 0 ≤ (m a2 1).toInt ∧ (m a2 1).toInt ≤ 16 := by have z := I a2 1; rw [ha2.2.2.1] at z; exact z
  have kn0 : nR m (p3 a0 a1 a2) 0 = (m a0 1).toInt := rfl
  have kn1 : nR m (p3 a0 a1 a2) 1 = (m a1 1).toInt := rfl
  have kn2 : nR m (p3 a0 a1 a2) 2 = (m a2 1).toInt := rfl
  have kN16 : N16 (nR m (p3 a0 a1 a2)) := N16_of kz0 kz1 kz2
  have kM0 := hp0 0 0 0 ⟨by omega, by omega, by omega, by omega, by omega, by omega⟩
  have kM0a := kM0.1
  have kM0b := MX1_le kM0 (by omega)
  have k00 : hidx 0 0 0 = 0 := by decide
  refine pv_aload_n (M := mX5_trace) 0 dX5_trace_0 1 rfl rfl rfl ?_
  refine mv_get (M := mX5_trace) (v := .ref 113) dX5_trace_1 FX5 0 wd370 (by decide) (tl112 hT) rfl rfl 4 rfl ?_
  refine pv_iconst (M := mX5_trace) (v := 0) dX5_trace_4 5 rfl (by decide) ?_
  refine iv_put (M := mX5_trace) (l1 := 0) (l2 := 16) dX5_trace_5 FX8 1 wd196 (by decide) rfl (tl113 hT) rfl rfl rfl I rfl (by decide) (by decide) 8 rfl (fun m12 e15 I13 => ?_)
  have K14 := Kp.set e15 (wl_r (by omega) (by omega))
  have k8 : (m12 113 1).toInt = 0 := by rw [e15, up2_eq]; decide
  refine pv_iconst (M := mX5_trace) (v := 0) dX5_trace_8 9 rfl (by decide) ?_
  refine pv_istore (M := mX5_trace) (lo2 := [.ref 112, .ref a0, .ref a1, .ref a2, .int 0, pv_U, pv_U, pv_U, pv_U, pv_U, pv_U, pv_U, pv_U]) dX5_trace_9 11 rfl (by decide) rfl rfl ?_
  refine pv_iconst (M := mX5_trace) (v := 0) dX5_trace_11 12 rfl (by decide) ?_
  refine pv_istore (M := mX5_trace) (lo2 := [.ref 112, .ref a0, .ref a1, .ref a2, .int 0, .int 0, pv_U, pv_U, pv_U, pv_U, pv_U, pv_U, pv_U]) dX5_trace_12 14 rfl (by decide) rfl rfl ?_
  refine pv_iconst (M := mX5_trace) (v := 0) dX5_trace_14 15 rfl (by decide) ?_
  refine pv_istore (M := mX5_trace) (lo2 := [.ref 112, .ref a0, .ref a1, .ref a2, .int 0, .int 0, .int 0, pv_U, pv_U, pv_U, pv_U, pv_U, pv_U]) dX5_trace_15 17 rfl (by decide) rfl rfl ?_
  refine pv_aload_n (M := mX5_trace) 0 dX5_trace_17 18 rfl rfl rfl ?_
  refine mv_get (M := mX5_trace) (v := .ref 115) dX5_trace_18 FX5 2 wd374 (by decide) (tl112 hT) rfl rfl 21 rfl ?_
  refine pv_iconst (M := mX5_trace) (v := 0) dX5_trace_21 22 rfl (by decide) ?_
  refine iv_iald (M := mX5_trace) (X := 0) (l1 := (-2147483648)) (l2 := 2147483647) dX5_trace_22 (tl115 hT) (by decide) (by omega) (by omega) I13 (fun _ => rfl) 23 rfl (fun v17 ev17 pv17 qv17 => ?_)
  have k23 : v17.toInt = Hc m 0 0 0 := by unfold Hc; rw [k00]; exact congrArg Int32.toInt (ev17.trans (K14 115 _ (wr_out (by omega))))
  refine pv_istore (M := mX5_trace) (lo2 := [.ref 112, .ref a0, .ref a1, .ref a2, .int 0, .int 0, .int 0, .int v17, pv_U, pv_U, pv_U, pv_U, pv_U]) dX5_trace_23 25 rfl (by decide) rfl rfl ?_
  have lp28 : ∀ (fuel27 : Nat) (y19 : Int32) (y20 : Int32) (y21 : Int32) (y22 : Int32) (m23 : Nat → Nat → Int32) (n24 : Nat → Nat → Int64), (0 ≤ y19.toInt) → (y19.toInt ≤ 16) → (0 ≤ y20.toInt) → (y20.toInt ≤ 16) → (0 ≤ y21.toInt) → (y21.toInt ≤ 16) → (0 ≤ y22.toInt) → (y22.toInt ≤ 16) → (TRH m m23 (p3 a0 a1 a2) y19.toInt y20.toInt y21.toInt y22.toInt) → IV BB m23 → fr (wl [(113, 114, none)]) m m23 → ((y22.toInt - 0) : Int).toNat < fuel27 → PV none g mX5_trace (sqV T BB (wl [(113, 114, none)]) r m (fun m' => HSF (nR m (p3 a0 a1 a2)) (sR m (p3 a0 a1 a2)) (m' 113 1).toInt (fun q => (m' 114 q).toInt))) 2 0 0 25 [.ref 112, .ref a0, .ref a1, .ref a2, .int y19, .int y20, .int y21, .int y22, pv_U, pv_U, pv_U, pv_U, pv_U] [] (mk T m23 n24 r) := by
    intro fuel27
    induction fuel27 with
    | zero => intro y19 y20 y21 y22 m23 n24 b30 b31 b32 b33 b34 b35 b36 b37 b38 I25 K26 z39; omega
    | succ fuel27 ih29 =>
      intro y19 y20 y21 y22 m23 n24 b30 b31 b32 b33 b34 b35 b36 b37 b38 I25 K26 z39
      have kg25 := (show TRH m m23 (p3 a0 a1 a2) y19.toInt y20.toInt y21.toInt y22.toInt by assumption)
      refine pv_iload (M := mX5_trace) dX5_trace_25 27 rfl rfl ?_
      refine pv_if_le (M := mX5_trace) (tgt := 169) dX5_trace_27 30 rfl (by decide) (fun c41 => ?_) (fun c41 => ?_)
      · have c41 := iv_le (X := y22.toInt) (Y := 0) c41 rfl (by decide)
        exact pv_vret (M := mX5_trace) dX5_trace_169 rfl ⟨_, _, rfl, rfl, I25, K26, (TRH_end kg25 hp0 (by omega))⟩
      · have c41 := iv_nle (X := y22.toInt) (Y := 0) c41 rfl (by decide)
        refine pv_iconst (M := mX5_trace) (v := 0) dX5_trace_30 31 rfl (by decide) ?_
        refine pv_istore (M := mX5_trace) (lo2 := [.ref 112, .ref a0, .ref a1, .ref a2, .int y19, .int y20, .int y21, .int y22, .int 0, pv_U, pv_U, pv_U, pv_U]) dX5_trace_31 33 rfl (by decide) rfl rfl ?_
        have lp51 : ∀ (fuel50 : Nat) (y42 : Int32) (y43 : Int32) (y44 : Int32) (y45 : Int32) (m46 : Nat → Nat → Int32) (n47 : Nat → Nat → Int64), (0 ≤ y42.toInt) → (y42.toInt ≤ 16) → (0 ≤ y43.toInt) → (y43.toInt ≤ 16) → (0 ≤ y44.toInt) → (y44.toInt ≤ 16) → (0 ≤ y45.toInt) → (y45.toInt ≤ 26) → (TRH m m46 (p3 a0 a1 a2) y42.toInt y43.toInt y44.toInt y22.toInt) → (NLM (nR m (p3 a0 a1 a2)) (sR m (p3 a0 a1 a2)) (Hc m) y42.toInt y43.toInt y44.toInt y22.toInt y45.toInt) → IV BB m46 → fr (wl [(113, 114, none)]) m m46 → ((26 - y45.toInt) : Int).toNat < fuel50 → PV none g mX5_trace (sqV T BB (wl [(113, 114, none)]) r m (fun m' => HSF (nR m (p3 a0 a1 a2)) (sR m (p3 a0 a1 a2)) (m' 113 1).toInt (fun q => (m' 114 q).toInt))) 2 0 0 33 [.ref 112, .ref a0, .ref a1, .ref a2, .int y42, .int y43, .int y44, .int y22, .int y45, pv_U, pv_U, pv_U, pv_U] [] (mk T m46 n47 r) := by
          intro fuel50
          induction fuel50 with
          | zero => intro y42 y43 y44 y45 m46 n47 b53 b54 b55 b56 b57 b58 b59 b60 b61 b62 I48 K49 z63; omega
          | succ fuel50 ih52 =>
            intro y42 y43 y44 y45 m46 n47 b53 b54 b55 b56 b57 b58 b59 b60 b61 b62 I48 K49 z63
            have kgT := (show TRH m m46 (p3 a0 a1 a2) y42.toInt y43.toInt y44.toInt y22.toInt by assumption)
            have kgN := (show NLM (nR m (p3 a0 a1 a2)) (sR m (p3 a0 a1 a2)) (Hc m) y42.toInt y43.toInt y44.toInt y22.toInt y45.toInt by assumption)
            have kF33 : ∀ b j, b ≤ 76 → m46 b j = m b j := fun b j h => K49 b j (wr_out (by omega))
            have kI := kgT.1
            have kgTb := kgT.2.1
            have kgTc := kgT.2.2.1
            refine pv_iload (M := mX5_trace) dX5_trace_33 35 rfl rfl ?_
            refine pv_bipush (M := mX5_trace) (v := 26) dX5_trace_35 37 rfl (by decide) ?_
            refine pv_icmp_ge (M := mX5_trace) (tgt := 163) dX5_trace_37 40 rfl (by decide) (fun c70 => ?_) (fun c70 => ?_)
            · have c70 := iv_le (X := 26) (Y := y45.toInt) c70 (by decide) rfl
              refine iv_inc (M := mX5_trace) (C := (-1)) dX5_trace_163 166 rfl rfl (by decide) rfl rfl (by decide) (by omega) (by omega) (fun v71 ev71 => ?_)
              show PV _ _ _ _ _ _ _ 166 [.ref 112, .ref a0, .ref a1, .ref a2, .int y42, .int y43, .int y44, .int v71, .int y45, pv_U, pv_U, pv_U, pv_U] [] _
              refine pv_goto (M := mX5_trace) (tgt := 25) dX5_trace_166 (by decide) ?_
              refine pv_fg (lo2 := [.ref 112, .ref a0, .ref a1, .ref a2, .int y42, .int y43, .int y44, .int v71, pv_U, pv_U, pv_U, pv_U, pv_U]) ⟨Or.inr rfl, ⟨Or.inr rfl, ⟨Or.inr rfl, ⟨Or.inr rfl, ⟨Or.inr rfl, ⟨Or.inr rfl, ⟨Or.inr rfl, ⟨Or.inr rfl, ⟨Or.inl rfl, ⟨Or.inl rfl, ⟨Or.inl rfl, ⟨Or.inl rfl, ⟨Or.inl rfl, trivial⟩⟩⟩⟩⟩⟩⟩⟩⟩⟩⟩⟩⟩ ?_
              have kb25 : TRH m m46 (p3 a0 a1 a2) y42.toInt y43.toInt y44.toInt v71.toInt := by first | (rw [show v71.toInt = y22.toInt - 1 by omega]; exact kHit) | exact TRH_no kgT hp0 kgN (by omega) (by omega) (by omega)
              exact ih29 y42 y43 y44 v71 m46 n47 (by first | omega | assumption | exact (iv_rng _).2 | exact (iv_rng _).1 | decide) (by first | omega | assumption | exact (iv_rng _).2 | exact (iv_rng _).1 | decide) (by first | omega | assumption | exact (iv_rng _).2 | exact (iv_rng _).1 | decide) (by first | omega | assumption | exact (iv_rng _).2 | exact (iv_rng _).1 | decide) (by first | omega | assumption | exact (iv_rng _).2 | exact (iv_rng _).1 | decide) (by first | omega | assumption | exact (iv_rng _).2 | exact (iv_rng _).1 | decide) (by first | omega | assumption | exact (iv_rng _).2 | exact (iv_rng _).1 | decide) (by first | omega | assumption | exact (iv_rng _).2 | exact (iv_rng _).1 | decide) kb25 I48 K49 (by omega)
            · have c70 := iv_nle (X := 26) (Y := y45.toInt) c70 (by decide) rfl
              refine pv_aload_n (M := mX5_trace) 1 dX5_trace_40 41 rfl rfl rfl ?_
              refine pv_iload (M := mX5_trace) dX5_trace_41 43 rfl rfl ?_
              refine pv_iload (M := mX5_trace) dX5_trace_43 45 rfl rfl ?_
              refine pv_callv (M := mX5_trace) (as := [.int y45, .int y42]) (st := []) (kc2 := 0) (ks2 := 0) dX5_trace_45 wd950 YX8_placeOf ⟨wd951, wd952⟩ (mk_get ha0.1) rfl rfl (s_X8_placeOf_vh g hT I48 a0 16 ha0 y45 y42 (by omega) (by omega)) rfl rfl (Nat.le_of_ble_eq_true rfl) (by decide) rfl rfl 48 rfl (fun rv h1 q73 => ?_)
              obtain ⟨v74, rfl, rfl, pv74, qv74, rv74⟩ := q73
              replace rv74 : v74.toInt < (16 : Int) ∧ NX1 (m46 a0 1).toInt (rwv m46 a0) y42.toInt y45.toInt v74.toInt := rv74
              show PV _ _ _ _ _ _ _ 48 [.ref 112, .ref a0, .ref a1, .ref a2, .int y42, .int y43, .int y44, .int y22, .int y45, pv_U, pv_U, pv_U, pv_U] [.int v74] _
              have k48 : NX1 (nR m (p3 a0 a1 a2) 0) (sR m (p3 a0 a1 a2) 0) y42.toInt y45.toInt v74.toInt := NXc kF33 hp1.2 rv74.2
              have k48b := rv74.1
              refine pv_istore (M := mX5_trace) (lo2 := [.ref 112, .ref a0, .ref a1, .ref a2, .int y42, .int y43, .int y44, .int y22, .int y45, .int v74, pv_U, pv_U, pv_U]) dX5_trace_48 50 rfl (by decide) rfl rfl ?_
              refine pv_aload_n (M := mX5_trace) 2 dX5_trace_50 51 rfl rfl rfl ?_
              refine pv_iload (M := mX5_trace) dX5_trace_51 53 rfl rfl ?_
              refine pv_iload (M := mX5_trace) dX5_trace_53 55 rfl rfl ?_
              refine pv_callv (M := mX5_trace) (as := [.int y45, .int y43]) (st := []) (kc2 := 0) (ks2 := 0) dX5_trace_55 wd950 YX8_placeOf ⟨wd951, wd952⟩ (mk_get ha1.1) rfl rfl (s_X8_placeOf_vh g hT I48 a1 16 ha1 y45 y43 (by omega) (by omega)) rfl rfl (Nat.le_of_ble_eq_true rfl) (by decide) rfl rfl 58 rfl (fun rv h1 q77 => ?_)
              obtain ⟨v78, rfl, rfl, pv78, qv78, rv78⟩ := q77
              replace rv78 : v78.toInt < (16 : Int) ∧ NX1 (m46 a1 1).toInt (rwv m46 a1) y43.toInt y45.toInt v78.toInt := rv78
              show PV _ _ _ _ _ _ _ 58 [.ref 112, .ref a0, .ref a1, .ref a2, .int y42, .int y43, .int y44, .int y22, .int y45, .int v74, pv_U, pv_U, pv_U] [.int v78] _
              have k58 : NX1 (nR m (p3 a0 a1 a2) 1) (sR m (p3 a0 a1 a2) 1) y43.toInt y45.toInt v78.toInt := NXc kF33 hp2.2 rv78.2
              have k58b := rv78.1
              refine pv_istore (M := mX5_trace) (lo2 := [.ref 112, .ref a0, .ref a1, .ref a2, .int y42, .int y43, .int y44, .int y22, .int y45, .int v74, .int v78, pv_U, pv_U]) dX5_trace_58 60 rfl (by decide) rfl rfl ?_
              refine pv_aload_n (M := mX5_trace) 3 dX5_trace_60 61 rfl rfl rfl ?_
              refine pv_iload (M := mX5_trace) dX5_trace_61 63 rfl rfl ?_
              refine pv_iload (M := mX5_trace) dX5_trace_63 65 rfl rfl ?_
              refine pv_callv (M := mX5_trace) (as := [.int y45, .int y44]) (st := []) (kc2 := 0) (ks2 := 0) dX5_trace_65 wd950 YX8_placeOf ⟨wd951, wd952⟩ (mk_get ha2.1) rfl rfl (s_X8_placeOf_vh g hT I48 a2 16 ha2 y45 y44 (by omega) (by omega)) rfl rfl (Nat.le_of_ble_eq_true rfl) (by decide) rfl rfl 68 rfl (fun rv h1 q81 => ?_)
              obtain ⟨v82, rfl, rfl, pv82, qv82, rv82⟩ := q81
              replace rv82 : v82.toInt < (16 : Int) ∧ NX1 (m46 a2 1).toInt (rwv m46 a2) y44.toInt y45.toInt v82.toInt := rv82
              show PV _ _ _ _ _ _ _ 68 [.ref 112, .ref a0, .ref a1, .ref a2, .int y42, .int y43, .int y44, .int y22, .int y45, .int v74, .int v78, pv_U, pv_U] [.int v82] _
              have k68 : NX1 (nR m (p3 a0 a1 a2) 2) (sR m (p3 a0 a1 a2) 2) y44.toInt y45.toInt v82.toInt := NXc kF33 hp3.2 rv82.2
              have k68b := rv82.1
              refine pv_istore (M := mX5_trace) (lo2 := [.ref 112, .ref a0, .ref a1, .ref a2, .int y42, .int y43, .int y44, .int y22, .int y45, .int v74, .int v78, .int v82, pv_U]) dX5_trace_68 70 rfl (by decide) rfl rfl ?_
              refine pv_iload (M := mX5_trace) dX5_trace_70 72 rfl rfl ?_
              refine pv_iconst (M := mX5_trace) (v := (-1)) dX5_trace_72 73 rfl (by decide) ?_
              refine pv_icmp_eq (M := mX5_trace) (tgt := 92) dX5_trace_73 76 rfl (by decide) (fun c85 => ?_) (fun c85 => ?_)
              · have c85 := iv_eq (X := v74.toInt) (Y := (-1)) c85 rfl (by decide)
                refine pv_iconst (M := mX5_trace) (v := 0) dX5_trace_92 93 rfl (by decide) ?_
                refine pv_istore (M := mX5_trace) (lo2 := [.ref 112, .ref a0, .ref a1, .ref a2, .int y42, .int y43, .int y44, .int y22, .int y45, .int v74, .int v78, .int v82, .int 0]) dX5_trace_93 95 rfl (by decide) rfl rfl ?_
                refine pv_iload (M := mX5_trace) dX5_trace_95 97 rfl rfl ?_
                refine pv_if_eq (M := mX5_trace) (tgt := 157) dX5_trace_97 100 rfl (by decide) (fun _ => ?_) (fun q => absurd (by decide) q)
                refine iv_inc (M := mX5_trace) (C := 1) dX5_trace_157 160 rfl rfl (by decide) rfl rfl (by decide) (by omega) (by omega) (fun v87 ev87 => ?_)
                show PV _ _ _ _ _ _ _ 160 [.ref 112, .ref a0, .ref a1, .ref a2, .int y42, .int y43, .int y44, .int y22, .int v87, .int v74, .int v78, .int v82, .int 0] [] _
                refine pv_goto (M := mX5_trace) (tgt := 33) dX5_trace_160 (by decide) ?_
                refine pv_fg (lo2 := [.ref 112, .ref a0, .ref a1, .ref a2, .int y42, .int y43, .int y44, .int y22, .int v87, pv_U, pv_U, pv_U, pv_U]) ⟨Or.inr rfl, ⟨Or.inr rfl, ⟨Or.inr rfl, ⟨Or.inr rfl, ⟨Or.inr rfl, ⟨Or.inr rfl, ⟨Or.inr rfl, ⟨Or.inr rfl, ⟨Or.inr rfl, ⟨Or.inl rfl, ⟨Or.inl rfl, ⟨Or.inl rfl, ⟨Or.inl rfl, trivial⟩⟩⟩⟩⟩⟩⟩⟩⟩⟩⟩⟩⟩ ?_
                have kb33 := kgT
                have kbN : NLM (nR m (p3 a0 a1 a2)) (sR m (p3 a0 a1 a2)) (Hc m) y42.toInt y43.toInt y44.toInt y22.toInt v87.toInt := by rw [show v87.toInt = y45.toInt + 1 by omega]; exact NLM_step kgN kI k48 k58 k68 (by first | exact Or.inl (by omega) | exact Or.inr (Or.inl (by omega)) | exact Or.inr (Or.inr (Or.inl (by omega))) | exact Or.inr (Or.inr (Or.inr (by omega))))
                exact ih52 y42 y43 y44 v87 m46 n47 (by first | omega | assumption | exact (iv_rng _).2 | exact (iv_rng _).1 | decide) (by first | omega | assumption | exact (iv_rng _).2 | exact (iv_rng _).1 | decide) (by first | omega | assumption | exact (iv_rng _).2 | exact (iv_rng _).1 | decide) (by first | omega | assumption | exact (iv_rng _).2 | exact (iv_rng _).1 | decide) (by first | omega | assumption | exact (iv_rng _).2 | exact (iv_rng _).1 | decide) (by first | omega | assumption | exact (iv_rng _).2 | exact (iv_rng _).1 | decide) (by first | omega | assumption | exact (iv_rng _).2 | exact (iv_rng _).1 | decide) (by first | omega | assumption | exact (iv_rng _).2 | exact (iv_rng _).1 | decide) kb33 kbN I48 K49 (by omega)
              · have c85 := iv_ne (X := v74.toInt) (Y := (-1)) c85 rfl (by decide)
                refine pv_iload (M := mX5_trace) dX5_trace_76 78 rfl rfl ?_
                refine pv_iconst (M := mX5_trace) (v := (-1)) dX5_trace_78 79 rfl (by decide) ?_
                refine pv_icmp_eq (M := mX5_trace) (tgt := 92) dX5_trace_79 82 rfl (by decide) (fun c90 => ?_) (fun c90 => ?_)
                · have c90 := iv_eq (X := v78.toInt) (Y := (-1)) c90 rfl (by decide)
                  refine pv_iconst (M := mX5_trace) (v := 0) dX5_trace_92 93 rfl (by decide) ?_
                  refine pv_istore (M := mX5_trace) (lo2 := [.ref 112, .ref a0, .ref a1, .ref a2, .int y42, .int y43, .int y44, .int y22, .int y45, .int v74, .int v78, .int v82, .int 0]) dX5_trace_93 95 rfl (by decide) rfl rfl ?_
                  refine pv_iload (M := mX5_trace) dX5_trace_95 97 rfl rfl ?_
                  refine pv_if_eq (M := mX5_trace) (tgt := 157) dX5_trace_97 100 rfl (by decide) (fun _ => ?_) (fun q => absurd (by decide) q)
                  refine iv_inc (M := mX5_trace) (C := 1) dX5_trace_157 160 rfl rfl (by decide) rfl rfl (by decide) (by omega) (by omega) (fun v92 ev92 => ?_)
                  show PV _ _ _ _ _ _ _ 160 [.ref 112, .ref a0, .ref a1, .ref a2, .int y42, .int y43, .int y44, .int y22, .int v92, .int v74, .int v78, .int v82, .int 0] [] _
                  refine pv_goto (M := mX5_trace) (tgt := 33) dX5_trace_160 (by decide) ?_
                  refine pv_fg (lo2 := [.ref 112, .ref a0, .ref a1, .ref a2, .int y42, .int y43, .int y44, .int y22, .int v92, pv_U, pv_U, pv_U, pv_U]) ⟨Or.inr rfl, ⟨Or.inr rfl, ⟨Or.inr rfl, ⟨Or.inr rfl, ⟨Or.inr rfl, ⟨Or.inr rfl, ⟨Or.inr rfl, ⟨Or.inr rfl, ⟨Or.inr rfl, ⟨Or.inl rfl, ⟨Or.inl rfl, ⟨Or.inl rfl, ⟨Or.inl rfl, trivial⟩⟩⟩⟩⟩⟩⟩⟩⟩⟩⟩⟩⟩ ?_
                  have kb33 := kgT
                  have kbN : NLM (nR m (p3 a0 a1 a2)) (sR m (p3 a0 a1 a2)) (Hc m) y42.toInt y43.toInt y44.toInt y22.toInt v92.toInt := by rw [show v92.toInt = y45.toInt + 1 by omega]; exact NLM_step kgN kI k48 k58 k68 (by first | exact Or.inl (by omega) | exact Or.inr (Or.inl (by omega)) | exact Or.inr (Or.inr (Or.inl (by omega))) | exact Or.inr (Or.inr (Or.inr (by omega))))
                  exact ih52 y42 y43 y44 v92 m46 n47 (by first | omega | assumption | exact (iv_rng _).2 | exact (iv_rng _).1 | decide) (by first | omega | assumption | exact (iv_rng _).2 | exact (iv_rng _).1 | decide) (by first | omega | assumption | exact (iv_rng _).2 | exact (iv_rng _).1 | decide) (by first | omega | assumption | exact (iv_rng _).2 | exact (iv_rng _).1 | decide) (by first | omega | assumption | exact (iv_rng _).2 | exact (iv_rng _).1 | decide) (by first | omega | assumption | exact (iv_rng _).2 | exact (iv_rng _).1 | decide) (by first | omega | assumption | exact (iv_rng _).2 | exact (iv_rng _).1 | decide) (by first | omega | assumption | exact (iv_rng _).2 | exact (iv_rng _).1 | decide) kb33 kbN I48 K49 (by omega)
                · have c90 := iv_ne (X := v78.toInt) (Y := (-1)) c90 rfl (by decide)
                  refine pv_iload (M := mX5_trace) dX5_trace_82 84 rfl rfl ?_
                  refine pv_iconst (M := mX5_trace) (v := (-1)) dX5_trace_84 85 rfl (by decide) ?_
                  refine pv_icmp_eq (M := mX5_trace) (tgt := 92) dX5_trace_85 88 rfl (by decide) (fun c95 => ?_) (fun c95 => ?_)
                  · have c95 := iv_eq (X := v82.toInt) (Y := (-1)) c95 rfl (by decide)
                    refine pv_iconst (M := mX5_trace) (v := 0) dX5_trace_92 93 rfl (by decide) ?_
                    refine pv_istore (M := mX5_trace) (lo2 := [.ref 112, .ref a0, .ref a1, .ref a2, .int y42, .int y43, .int y44, .int y22, .int y45, .int v74, .int v78, .int v82, .int 0]) dX5_trace_93 95 rfl (by decide) rfl rfl ?_
                    refine pv_iload (M := mX5_trace) dX5_trace_95 97 rfl rfl ?_
                    refine pv_if_eq (M := mX5_trace) (tgt := 157) dX5_trace_97 100 rfl (by decide) (fun _ => ?_) (fun q => absurd (by decide) q)
                    refine iv_inc (M := mX5_trace) (C := 1) dX5_trace_157 160 rfl rfl (by decide) rfl rfl (by decide) (by omega) (by omega) (fun v97 ev97 => ?_)
                    show PV _ _ _ _ _ _ _ 160 [.ref 112, .ref a0, .ref a1, .ref a2, .int y42, .int y43, .int y44, .int y22, .int v97, .int v74, .int v78, .int v82, .int 0] [] _
                    refine pv_goto (M := mX5_trace) (tgt := 33) dX5_trace_160 (by decide) ?_
                    refine pv_fg (lo2 := [.ref 112, .ref a0, .ref a1, .ref a2, .int y42, .int y43, .int y44, .int y22, .int v97, pv_U, pv_U, pv_U, pv_U]) ⟨Or.inr rfl, ⟨Or.inr rfl, ⟨Or.inr rfl, ⟨Or.inr rfl, ⟨Or.inr rfl, ⟨Or.inr rfl, ⟨Or.inr rfl, ⟨Or.inr rfl, ⟨Or.inr rfl, ⟨Or.inl rfl, ⟨Or.inl rfl, ⟨Or.inl rfl, ⟨Or.inl rfl, trivial⟩⟩⟩⟩⟩⟩⟩⟩⟩⟩⟩⟩⟩ ?_
                    have kb33 := kgT
                    have kbN : NLM (nR m (p3 a0 a1 a2)) (sR m (p3 a0 a1 a2)) (Hc m) y42.toInt y43.toInt y44.toInt y22.toInt v97.toInt := by rw [show v97.toInt = y45.toInt + 1 by omega]; exact NLM_step kgN kI k48 k58 k68 (by first | exact Or.inl (by omega) | exact Or.inr (Or.inl (by omega)) | exact Or.inr (Or.inr (Or.inl (by omega))) | exact Or.inr (Or.inr (Or.inr (by omega))))
                    exact ih52 y42 y43 y44 v97 m46 n47 (by first | omega | assumption | exact (iv_rng _).2 | exact (iv_rng _).1 | decide) (by first | omega | assumption | exact (iv_rng _).2 | exact (iv_rng _).1 | decide) (by first | omega | assumption | exact (iv_rng _).2 | exact (iv_rng _).1 | decide) (by first | omega | assumption | exact (iv_rng _).2 | exact (iv_rng _).1 | decide) (by first | omega | assumption | exact (iv_rng _).2 | exact (iv_rng _).1 | decide) (by first | omega | assumption | exact (iv_rng _).2 | exact (iv_rng _).1 | decide) (by first | omega | assumption | exact (iv_rng _).2 | exact (iv_rng _).1 | decide) (by first | omega | assumption | exact (iv_rng _).2 | exact (iv_rng _).1 | decide) kb33 kbN I48 K49 (by omega)
                  · have c95 := iv_ne (X := v82.toInt) (Y := (-1)) c95 rfl (by decide)
                    refine pv_iconst (M := mX5_trace) (v := 1) dX5_trace_88 89 rfl (by decide) ?_
                    refine pv_goto (M := mX5_trace) (tgt := 93) dX5_trace_89 (by decide) ?_
                    refine pv_istore (M := mX5_trace) (lo2 := [.ref 112, .ref a0, .ref a1, .ref a2, .int y42, .int y43, .int y44, .int y22, .int y45, .int v74, .int v78, .int v82, .int 1]) dX5_trace_93 95 rfl (by decide) rfl rfl ?_
                    refine pv_iload (M := mX5_trace) dX5_trace_95 97 rfl rfl ?_
                    refine pv_if_eq (M := mX5_trace) (tgt := 157) dX5_trace_97 100 rfl (by decide) (fun q => absurd q (by decide)) (fun _ => ?_)
                    refine pv_aload_n (M := mX5_trace) 0 dX5_trace_100 101 rfl rfl rfl ?_
                    refine mv_get (M := mX5_trace) (v := .ref 115) dX5_trace_101 FX5 2 wd374 (by decide) (tl112 hT) rfl rfl 104 rfl ?_
                    refine pv_iload (M := mX5_trace) dX5_trace_104 106 rfl rfl ?_
                    refine pv_iconst (M := mX5_trace) (v := 1) dX5_trace_106 107 rfl (by decide) ?_
                    refine iv_iadd (M := mX5_trace) (X := v74.toInt) (Y := 1) dX5_trace_107 108 rfl rfl (by decide) (by omega) (by omega) (fun v101 ev101 => ?_)
                    refine pv_iload (M := mX5_trace) dX5_trace_108 110 rfl rfl ?_
                    refine pv_iconst (M := mX5_trace) (v := 1) dX5_trace_110 111 rfl (by decide) ?_
                    refine iv_iadd (M := mX5_trace) (X := v78.toInt) (Y := 1) dX5_trace_111 112 rfl rfl (by decide) (by omega) (by omega) (fun v102 ev102 => ?_)
                    refine pv_iload (M := mX5_trace) dX5_trace_112 114 rfl rfl ?_
                    refine pv_iconst (M := mX5_trace) (v := 1) dX5_trace_114 115 rfl (by decide) ?_
                    refine iv_iadd (M := mX5_trace) (X := v82.toInt) (Y := 1) dX5_trace_115 116 rfl rfl (by decide) (by omega) (by omega) (fun v103 ev103 => ?_)
                    refine pv_calls (M := mX5_trace) (as := [.int v101, .int v102, .int v103]) (st := [.ref 115]) (kc2 := 0) (ks2 := 0) dX5_trace_116 wd938 YX5_cell wd939 (s_X5_cell_vh g hT I48 v101 (by omega) (by omega) v102 (by omega) (by omega) v103 (by omega) (by omega)) rfl rfl (Nat.le_of_ble_eq_true rfl) (by decide) rfl rfl 119 rfl (fun rv h1 q104 => ?_)
                    obtain ⟨v105, rfl, rfl, pv105, qv105, rv105⟩ := q104
                    replace rv105 : v105.toInt = (17 * v101.toInt + v102.toInt) * 17 + v103.toInt := rv105
                    show PV _ _ _ _ _ _ _ 119 [.ref 112, .ref a0, .ref a1, .ref a2, .int y42, .int y43, .int y44, .int y22, .int y45, .int v74, .int v78, .int v82, .int 1] [.int v105, .ref 115] _
                    have k119 := rv105
                    refine iv_iald (M := mX5_trace) (X := v105.toInt) (l1 := (-2147483648)) (l2 := 2147483647) dX5_trace_119 (tl115 hT) rfl (by omega) (by omega) I48 (fun _ => rfl) 120 rfl (fun v107 ev107 pv107 qv107 => ?_)
                    have k120 : v107.toInt = Hc m (v74.toInt + 1) (v78.toInt + 1) (v82.toInt + 1) := (congrArg Int32.toInt (ev107.trans (K49 115 _ (wr_out (by omega))))).trans (congrArg (fun z => (m 115 z).toInt) (by unfold hidx; omega))
                    refine pv_iload (M := mX5_trace) dX5_trace_120 122 rfl rfl ?_
                    refine pv_iconst (M := mX5_trace) (v := 1) dX5_trace_122 123 rfl (by decide) ?_
                    refine iv_isub (M := mX5_trace) (X := y22.toInt) (Y := 1) dX5_trace_123 124 rfl rfl (by decide) (by omega) (by omega) (fun v109 ev109 => ?_)
                    refine pv_icmp_ne (M := mX5_trace) (tgt := 157) dX5_trace_124 127 rfl (by decide) (fun c110 => ?_) (fun c110 => ?_)
                    · have c110 := iv_ne (X := v107.toInt) (Y := v109.toInt) c110 rfl rfl
                      refine iv_inc (M := mX5_trace) (C := 1) dX5_trace_157 160 rfl rfl (by decide) rfl rfl (by decide) (by omega) (by omega) (fun v111 ev111 => ?_)
                      show PV _ _ _ _ _ _ _ 160 [.ref 112, .ref a0, .ref a1, .ref a2, .int y42, .int y43, .int y44, .int y22, .int v111, .int v74, .int v78, .int v82, .int 1] [] _
                      refine pv_goto (M := mX5_trace) (tgt := 33) dX5_trace_160 (by decide) ?_
                      refine pv_fg (lo2 := [.ref 112, .ref a0, .ref a1, .ref a2, .int y42, .int y43, .int y44, .int y22, .int v111, pv_U, pv_U, pv_U, pv_U]) ⟨Or.inr rfl, ⟨Or.inr rfl, ⟨Or.inr rfl, ⟨Or.inr rfl, ⟨Or.inr rfl, ⟨Or.inr rfl, ⟨Or.inr rfl, ⟨Or.inr rfl, ⟨Or.inr rfl, ⟨Or.inl rfl, ⟨Or.inl rfl, ⟨Or.inl rfl, ⟨Or.inl rfl, trivial⟩⟩⟩⟩⟩⟩⟩⟩⟩⟩⟩⟩⟩ ?_
                      have kb33 := kgT
                      have kbN : NLM (nR m (p3 a0 a1 a2)) (sR m (p3 a0 a1 a2)) (Hc m) y42.toInt y43.toInt y44.toInt y22.toInt v111.toInt := by rw [show v111.toInt = y45.toInt + 1 by omega]; exact NLM_step kgN kI k48 k58 k68 (by first | exact Or.inl (by omega) | exact Or.inr (Or.inl (by omega)) | exact Or.inr (Or.inr (Or.inl (by omega))) | exact Or.inr (Or.inr (Or.inr (by omega))))
                      exact ih52 y42 y43 y44 v111 m46 n47 (by first | omega | assumption | exact (iv_rng _).2 | exact (iv_rng _).1 | decide) (by first | omega | assumption | exact (iv_rng _).2 | exact (iv_rng _).1 | decide) (by first | omega | assumption | exact (iv_rng _).2 | exact (iv_rng _).1 | decide) (by first | omega | assumption | exact (iv_rng _).2 | exact (iv_rng _).1 | decide) (by first | omega | assumption | exact (iv_rng _).2 | exact (iv_rng _).1 | decide) (by first | omega | assumption | exact (iv_rng _).2 | exact (iv_rng _).1 | decide) (by first | omega | assumption | exact (iv_rng _).2 | exact (iv_rng _).1 | decide) (by first | omega | assumption | exact (iv_rng _).2 | exact (iv_rng _).1 | decide) kb33 kbN I48 K49 (by omega)
                    · have c110 := iv_eq (X := v107.toInt) (Y := v109.toInt) c110 rfl rfl
                      refine pv_aload_n (M := mX5_trace) 0 dX5_trace_127 128 rfl rfl rfl ?_
                      refine mv_get (M := mX5_trace) (v := .ref 113) dX5_trace_128 FX5 0 wd370 (by decide) (tl112 hT) rfl rfl 131 rfl ?_
                      refine pv_iload (M := mX5_trace) dX5_trace_131 133 rfl rfl ?_
                      refine pv_callv (M := mX5_trace) (as := [.int y45]) (st := []) (kc2 := 0) (ks2 := 0) dX5_trace_133 wd954 YX8_add ⟨wd488, wd489⟩ (mk_get (tl113 hT)) rfl rfl (s_X8_add_vy g hT I48 113 16 (row113 hT) y45 (by omega)) rfl rfl (Nat.le_of_ble_eq_true rfl) (by decide) rfl rfl 136 rfl (fun rv h1 q114 => ?_)
                      obtain ⟨m115, n116, rfl, rfl, I117, K118, rm115⟩ := q114
                      replace rm115 : (m115 113 1).toInt = (m46 113 1).toInt + 1 ∧ m115 (113 + 1) (m46 113 1).toInt.toNat = y45 ∧ ∀ j : Nat, j ≠ (m46 113 1).toInt.toNat → m115 (113 + 1) j = m46 (113 + 1) j := rm115
                      have K118c := K118
                      have K118 := K49.trans (K118.sub (wr_wr (by omega) (by omega)))
                      show PV _ _ _ _ _ _ _ 136 [.ref 112, .ref a0, .ref a1, .ref a2, .int y42, .int y43, .int y44, .int y22, .int y45, .int v74, .int v78, .int v82, .int 1] [] _
                      have k136 := rm115
                      refine pv_iload (M := mX5_trace) dX5_trace_136 138 rfl rfl ?_
                      refine pv_iconst (M := mX5_trace) (v := 1) dX5_trace_138 139 rfl (by decide) ?_
                      refine iv_iadd (M := mX5_trace) (X := v74.toInt) (Y := 1) dX5_trace_139 140 rfl rfl (by decide) (by omega) (by omega) (fun v120 ev120 => ?_)
                      refine pv_istore (M := mX5_trace) (lo2 := [.ref 112, .ref a0, .ref a1, .ref a2, .int v120, .int y43, .int y44, .int y22, .int y45, .int v74, .int v78, .int v82, .int 1]) dX5_trace_140 142 rfl (by decide) rfl rfl ?_
                      refine pv_iload (M := mX5_trace) dX5_trace_142 144 rfl rfl ?_
                      refine pv_iconst (M := mX5_trace) (v := 1) dX5_trace_144 145 rfl (by decide) ?_
                      refine iv_iadd (M := mX5_trace) (X := v78.toInt) (Y := 1) dX5_trace_145 146 rfl rfl (by decide) (by omega) (by omega) (fun v121 ev121 => ?_)
                      refine pv_istore (M := mX5_trace) (lo2 := [.ref 112, .ref a0, .ref a1, .ref a2, .int v120, .int v121, .int y44, .int y22, .int y45, .int v74, .int v78, .int v82, .int 1]) dX5_trace_146 148 rfl (by decide) rfl rfl ?_
                      refine pv_iload (M := mX5_trace) dX5_trace_148 150 rfl rfl ?_
                      refine pv_iconst (M := mX5_trace) (v := 1) dX5_trace_150 151 rfl (by decide) ?_
                      refine iv_iadd (M := mX5_trace) (X := v82.toInt) (Y := 1) dX5_trace_151 152 rfl rfl (by decide) (by omega) (by omega) (fun v122 ev122 => ?_)
                      refine pv_istore (M := mX5_trace) (lo2 := [.ref 112, .ref a0, .ref a1, .ref a2, .int v120, .int v121, .int v122, .int y22, .int y45, .int v74, .int v78, .int v82, .int 1]) dX5_trace_152 154 rfl (by decide) rfl rfl ?_
                      have kHit : TRH m m115 (p3 a0 a1 a2) v120.toInt v121.toInt v122.toInt (y22.toInt - 1) := TRH_hit kgT kgN (by omega) (by omega) k48 k58 k68 (by omega) (by omega) (by omega) (by omega) k136.1 (congrArg Int32.toInt k136.2.1) k136.2.2 (by omega) (by omega) (by omega) rfl
                      refine pv_goto (M := mX5_trace) (tgt := 163) dX5_trace_154 (by decide) ?_
                      refine iv_inc (M := mX5_trace) (C := (-1)) dX5_trace_163 166 rfl rfl (by decide) rfl rfl (by decide) (by omega) (by omega) (fun v124 ev124 => ?_)
                      show PV _ _ _ _ _ _ _ 166 [.ref 112, .ref a0, .ref a1, .ref a2, .int v120, .int v121, .int v122, .int v124, .int y45, .int v74, .int v78, .int v82, .int 1] [] _
                      refine pv_goto (M := mX5_trace) (tgt := 25) dX5_trace_166 (by decide) ?_
                      refine pv_fg (lo2 := [.ref 112, .ref a0, .ref a1, .ref a2, .int v120, .int v121, .int v122, .int v124, pv_U, pv_U, pv_U, pv_U, pv_U]) ⟨Or.inr rfl, ⟨Or.inr rfl, ⟨Or.inr rfl, ⟨Or.inr rfl, ⟨Or.inr rfl, ⟨Or.inr rfl, ⟨Or.inr rfl, ⟨Or.inr rfl, ⟨Or.inl rfl, ⟨Or.inl rfl, ⟨Or.inl rfl, ⟨Or.inl rfl, ⟨Or.inl rfl, trivial⟩⟩⟩⟩⟩⟩⟩⟩⟩⟩⟩⟩⟩ ?_
                      have kb25 : TRH m m115 (p3 a0 a1 a2) v120.toInt v121.toInt v122.toInt v124.toInt := by first | (rw [show v124.toInt = y22.toInt - 1 by omega]; exact kHit) | exact TRH_no kgT hp0 kgN (by omega) (by omega) (by omega)
                      exact ih29 v120 v121 v122 v124 m115 n116 (by first | omega | assumption | exact (iv_rng _).2 | exact (iv_rng _).1 | decide) (by first | omega | assumption | exact (iv_rng _).2 | exact (iv_rng _).1 | decide) (by first | omega | assumption | exact (iv_rng _).2 | exact (iv_rng _).1 | decide) (by first | omega | assumption | exact (iv_rng _).2 | exact (iv_rng _).1 | decide) (by first | omega | assumption | exact (iv_rng _).2 | exact (iv_rng _).1 | decide) (by first | omega | assumption | exact (iv_rng _).2 | exact (iv_rng _).1 | decide) (by first | omega | assumption | exact (iv_rng _).2 | exact (iv_rng _).1 | decide) (by first | omega | assumption | exact (iv_rng _).2 | exact (iv_rng _).1 | decide) kb25 I117 K118 (by omega)
        have z126 : (0 : Int32).toInt = 0 := by decide
        exact lp51 (((26 - 0) : Int).toNat + 1) y19 y20 y21 0 m23 n24 (by first | omega | assumption | exact (iv_rng _).2 | exact (iv_rng _).1 | decide) (by first | omega | assumption | exact (iv_rng _).2 | exact (iv_rng _).1 | decide) (by first | omega | assumption | exact (iv_rng _).2 | exact (iv_rng _).1 | decide) (by first | omega | assumption | exact (iv_rng _).2 | exact (iv_rng _).1 | decide) (by first | omega | assumption | exact (iv_rng _).2 | exact (iv_rng _).1 | decide) (by first | omega | assumption | exact (iv_rng _).2 | exact (iv_rng _).1 | decide) (by first | omega | assumption | exact (iv_rng _).2 | exact (iv_rng _).1 | decide) (by first | omega | assumption | exact (iv_rng _).2 | exact (iv_rng _).1 | decide) kg25 (by rw [Int32.toInt_zero]; exact NLM_0) I25 K26 (by omega)
  have z127 : (0 : Int32).toInt = 0 := by decide
  have z128 : (0 : Int32).toInt = 0 := by decide
  have z129 : (0 : Int32).toInt = 0 := by decide
  have kT0 : TRH m m12 (p3 a0 a1 a2) (0 : Int32).toInt (0 : Int32).toInt (0 : Int32).toInt v17.toInt := by rw [Int32.toInt_zero]; exact TRH_0 kN16 k8 k23
  exact lp28 (((v17.toInt - 0) : Int).toNat + 1) 0 0 0 v17 m12 n (by first | omega | assumption | exact (iv_rng _).2 | exact (iv_rng _).1 | decide) (by first | omega | assumption | exact (iv_rng _).2 | exact (iv_rng _).1 | decide) (by first | omega | assumption | exact (iv_rng _).2 | exact (iv_rng _).1 | decide) (by first | omega | assumption | exact (iv_rng _).2 | exact (iv_rng _).1 | decide) (by first | omega | assumption | exact (iv_rng _).2 | exact (iv_rng _).1 | decide) (by first | omega | assumption | exact (iv_rng _).2 | exact (iv_rng _).1 | decide) (by first | omega | assumption | exact (iv_rng _).2 | exact (iv_rng _).1 | decide) (by first | omega | assumption | exact (iv_rng _).2 | exact (iv_rng _).1 | decide) kT0 I13 K14 (by omega)

set_option maxHeartbeats 2000000 in
set_option maxRecDepth 20000 in
theorem s_X5_solve_vh (g : pv_G) {T : List mv_T} {m : Nat → Nat → Int32} {n : Nat → Nat → Int64} {r : Nat → Value} (hT : TX T) (I : IV BB m) (a0 : Nat) (ha0 : RowAt T a0 16) (a1 : Nat) (ha1 : RowAt T a1 16) (a2 : Nat) (ha2 : RowAt T a2 16) (hp0 : 61 ≤ a0 ∧ a0 ≤ 75) (hp1 : 61 ≤ a1 ∧ a1 ≤ 75) (hp2 : 61 ≤ a2 ∧ a2 ≤ 75) : PM g mX5_solve yX5_solve (sqV T BB (wl [(112, 115, none)]) r m (fun m' => HSF (nR m' (p3 a0 a1 a2)) (sR m' (p3 a0 a1 a2)) (m' 113 1).toInt (fun q => (m' 114 q).toInt))) 3 0 0 [.ref 112, .ref a0, .ref a1, .ref a2] (mk T m n r) := by
  have Kp : fr (wl [(112, 115, none)]) m m := fr.rf
  have zr0 := ha0.2.2.2.2
  have zr1 := ha1.2.2.2.2
  have zr2 := ha2.2.2.2.2
  refine PM.of 3 (lo := [.ref 112, .ref a0, .ref a1, .ref a2, pv_U, pv_U, pv_U]) rfl (by decide) rfl rfl (Nat.le_of_ble_eq_true rfl) ?_
  have kz0 : 0 ≤ (m a0 1).toInt ∧ (m a0 1).toInt ≤ 16 := by have z := I a0 1; rw [ha0.2.2.1] at z; exact z
  have kz1 : 0 ≤ (m a1 1).toInt ∧ (m a1 1).toInt ≤ 16 := by have z := I a1 1; rw [ha1.2.2.1] at z; exact z
  have kz2 : 0 ≤ (m a2 1).toInt ∧ (m a2 1).toInt ≤ 16 := by have z := I a2 1; rw [ha2.2.2.1] at z; exact z
  have kn0 : nR m (p3 a0 a1 a2) 0 = (m a0 1).toInt := rfl
  have kn1 : nR m (p3 a0 a1 a2) 1 = (m a1 1).toInt := rfl
  have kn2 : nR m (p3 a0 a1 a2) 2 = (m a2 1).toInt := rfl
  have kN16 : N16 (nR m (p3 a0 a1 a2)) := N16_of kz0 kz1 kz2
  refine pv_aload_n (M := mX5_solve) 1 dX5_solve_0 1 rfl rfl rfl ?_
  refine iv_get (M := mX5_solve) (l1 := 0) (l2 := 16) dX5_solve_1 FX8 1 wd196 (by decide) ha0.1 rfl I ha0.2.2.1 4 rfl (fun v8 ev8 pv8 qv8 => ?_)
  have wv8 : v8.toInt = (m a0 1).toInt := congrArg Int32.toInt ev8
  refine pv_istore (M := mX5_solve) (lo2 := [.ref 112, .ref a0, .ref a1, .ref a2, .int v8, pv_U, pv_U]) dX5_solve_4 6 rfl (by decide) rfl rfl ?_
  have lp15 : ∀ (fuel14 : Nat) (y9 : Int32) (m10 : Nat → Nat → Int32) (n11 : Nat → Nat → Int64), (-1 ≤ y9.toInt) → (y9.toInt ≤ 16) → (y9.toInt ≤ (m10 a0 1).toInt) → (TB3 (nR m (p3 a0 a1 a2)) (sR m (p3 a0 a1 a2)) (Hc m10) y9.toInt 16 16) → IV BB m10 → fr (wl [(112, 115, none)]) m m10 → ((y9.toInt - (-1)) : Int).toNat < fuel14 → PV none g mX5_solve (sqV T BB (wl [(112, 115, none)]) r m (fun m' => HSF (nR m' (p3 a0 a1 a2)) (sR m' (p3 a0 a1 a2)) (m' 113 1).toInt (fun q => (m' 114 q).toInt))) 3 0 0 6 [.ref 112, .ref a0, .ref a1, .ref a2, .int y9, pv_U, pv_U] [] (mk T m10 n11 r) := by
    intro fuel14
    induction fuel14 with
    | zero => intro y9 m10 n11 b17 b18 b19 b20 I12 K13 z21; omega
    | succ fuel14 ih16 =>
      intro y9 m10 n11 b17 b18 b19 b20 I12 K13 z21
      have kg6 := (show TB3 (nR m (p3 a0 a1 a2)) (sR m (p3 a0 a1 a2)) (Hc m10) y9.toInt 16 16 by assumption)
      have kF6 : ∀ b j, b ≤ 76 → m10 b j = m b j := fun b j h => K13 b j (wr_out (by omega))
      have ke60 : (m10 a0 1).toInt = (m a0 1).toInt := congrArg Int32.toInt (kF6 _ _ (by omega))
      have ke61 : (m10 a1 1).toInt = (m a1 1).toInt := congrArg Int32.toInt (kF6 _ _ (by omega))
      have ke62 : (m10 a2 1).toInt = (m a2 1).toInt := congrArg Int32.toInt (kF6 _ _ (by omega))
      have kE6 := nR_eq (m := m) (m2 := m10) (p := (p3 a0 a1 a2)) kF6 (p3_le hp0.2 hp1.2 hp2.2)
      refine pv_iload (M := mX5_solve) dX5_solve_6 8 rfl rfl ?_
      refine pv_if_lt (M := mX5_solve) (tgt := 78) dX5_solve_8 11 rfl (by decide) (fun c28 => ?_) (fun c28 => ?_)
      · have c28 := iv_lt (X := y9.toInt) (Y := 0) c28 rfl (by decide)
        refine pv_aload_n (M := mX5_solve) 0 dX5_solve_78 79 rfl rfl rfl ?_
        refine pv_aload_n (M := mX5_solve) 1 dX5_solve_79 80 rfl rfl rfl ?_
        refine pv_aload_n (M := mX5_solve) 2 dX5_solve_80 81 rfl rfl rfl ?_
        refine pv_aload_n (M := mX5_solve) 3 dX5_solve_81 82 rfl rfl rfl ?_
        refine pv_callv (M := mX5_solve) (as := [.ref a0, .ref a1, .ref a2]) (st := []) (kc2 := 0) (ks2 := 0) dX5_solve_82 wd946 YX5_trace ⟨wd948, wd37⟩ (mk_get (tl112 hT)) rfl rfl (s_X5_trace_vh g hT I12 a0 ha0 a1 ha1 a2 ha2 (by rw [kE6.1, kE6.2]; exact TB3_end kg6 (by omega)) hp0 hp1 hp2) rfl rfl (Nat.le_of_ble_eq_true rfl) (by decide) rfl rfl 85 rfl (fun rv h1 q29 => ?_)
        obtain ⟨m30, n31, rfl, rfl, I32, K33, rm30⟩ := q29
        replace rm30 : HSF (nR m10 (p3 a0 a1 a2)) (sR m10 (p3 a0 a1 a2)) (m30 113 1).toInt (fun q => (m30 114 q).toInt) := rm30
        have K33c := K33
        have K33 := K13.trans (K33.sub (wr_wr (by omega) (by omega)))
        show PV _ _ _ _ _ _ _ 85 [.ref 112, .ref a0, .ref a1, .ref a2, .int y9, pv_U, pv_U] [] _
        have k85 := rm30
        have k85f := nR_eq (m := m10) (m2 := m30) (p := (p3 a0 a1 a2)) (fun b j h => K33c b j (wr_out (by omega))) (p3_le hp0.2 hp1.2 hp2.2)
        exact pv_vret (M := mX5_solve) dX5_solve_85 rfl ⟨_, _, rfl, rfl, I32, K33, (by have q := k85; rw [← k85f.1, ← k85f.2] at q; exact q)⟩
      · have c28 := iv_nlt (X := y9.toInt) (Y := 0) c28 rfl (by decide)
        refine pv_aload_n (M := mX5_solve) 2 dX5_solve_11 12 rfl rfl rfl ?_
        refine iv_get (M := mX5_solve) (l1 := 0) (l2 := 16) dX5_solve_12 FX8 1 wd196 (by decide) ha1.1 rfl I12 ha1.2.2.1 15 rfl (fun v36 ev36 pv36 qv36 => ?_)
        have wv36 : v36.toInt = (m10 a1 1).toInt := congrArg Int32.toInt ev36
        refine pv_istore (M := mX5_solve) (lo2 := [.ref 112, .ref a0, .ref a1, .ref a2, .int y9, .int v36, pv_U]) dX5_solve_15 17 rfl (by decide) rfl rfl ?_
        have lp43 : ∀ (fuel42 : Nat) (y37 : Int32) (m38 : Nat → Nat → Int32) (n39 : Nat → Nat → Int64), (-1 ≤ y37.toInt) → (y37.toInt ≤ 16) → (y9.toInt ≤ (m38 a0 1).toInt) → (y37.toInt ≤ (m38 a1 1).toInt) → (TB3 (nR m (p3 a0 a1 a2)) (sR m (p3 a0 a1 a2)) (Hc m38) y9.toInt y37.toInt 16) → IV BB m38 → fr (wl [(112, 115, none)]) m m38 → ((y37.toInt - (-1)) : Int).toNat < fuel42 → PV none g mX5_solve (sqV T BB (wl [(112, 115, none)]) r m (fun m' => HSF (nR m' (p3 a0 a1 a2)) (sR m' (p3 a0 a1 a2)) (m' 113 1).toInt (fun q => (m' 114 q).toInt))) 3 0 0 17 [.ref 112, .ref a0, .ref a1, .ref a2, .int y9, .int y37, pv_U] [] (mk T m38 n39 r) := by
          intro fuel42
          induction fuel42 with
          | zero => intro y37 m38 n39 b45 b46 b47 b48 b49 I40 K41 z50; omega
          | succ fuel42 ih44 =>
            intro y37 m38 n39 b45 b46 b47 b48 b49 I40 K41 z50
            have kg17 := (show TB3 (nR m (p3 a0 a1 a2)) (sR m (p3 a0 a1 a2)) (Hc m38) y9.toInt y37.toInt 16 by assumption)
            have kF17 : ∀ b j, b ≤ 76 → m38 b j = m b j := fun b j h => K41 b j (wr_out (by omega))
            have ke170 : (m38 a0 1).toInt = (m a0 1).toInt := congrArg Int32.toInt (kF17 _ _ (by omega))
            have ke171 : (m38 a1 1).toInt = (m a1 1).toInt := congrArg Int32.toInt (kF17 _ _ (by omega))
            have ke172 : (m38 a2 1).toInt = (m a2 1).toInt := congrArg Int32.toInt (kF17 _ _ (by omega))
            have kE17 := nR_eq (m := m) (m2 := m38) (p := (p3 a0 a1 a2)) kF17 (p3_le hp0.2 hp1.2 hp2.2)
            refine pv_iload (M := mX5_solve) dX5_solve_17 19 rfl rfl ?_
            refine pv_if_lt (M := mX5_solve) (tgt := 72) dX5_solve_19 22 rfl (by decide) (fun c57 => ?_) (fun c57 => ?_)
            · have c57 := iv_lt (X := y37.toInt) (Y := 0) c57 rfl (by decide)
              refine iv_inc (M := mX5_solve) (C := (-1)) dX5_solve_72 75 rfl rfl (by decide) rfl rfl (by decide) (by omega) (by omega) (fun v58 ev58 => ?_)
              show PV _ _ _ _ _ _ _ 75 [.ref 112, .ref a0, .ref a1, .ref a2, .int v58, .int y37, pv_U] [] _
              refine pv_goto (M := mX5_solve) (tgt := 6) dX5_solve_75 (by decide) ?_
              refine pv_fg (lo2 := [.ref 112, .ref a0, .ref a1, .ref a2, .int v58, pv_U, pv_U]) ⟨Or.inr rfl, ⟨Or.inr rfl, ⟨Or.inr rfl, ⟨Or.inr rfl, ⟨Or.inr rfl, ⟨Or.inl rfl, ⟨Or.inl rfl, trivial⟩⟩⟩⟩⟩⟩⟩ ?_
              have kb6 : TB3 (nR m (p3 a0 a1 a2)) (sR m (p3 a0 a1 a2)) (Hc m38) v58.toInt 16 16 := TB3_aa kN16 kg17 (by omega) (by omega)
              exact ih16 v58 m38 n39 (by first | omega | assumption | exact (iv_rng _).2 | exact (iv_rng _).1 | decide) (by first | omega | assumption | exact (iv_rng _).2 | exact (iv_rng _).1 | decide) (by first | omega | assumption | (show v58.toInt ≤ (m38 a0 1).toInt; omega) | decide) kb6 I40 K41 (by omega)
            · have c57 := iv_nlt (X := y37.toInt) (Y := 0) c57 rfl (by decide)
              refine pv_aload_n (M := mX5_solve) 3 dX5_solve_22 23 rfl rfl rfl ?_
              refine iv_get (M := mX5_solve) (l1 := 0) (l2 := 16) dX5_solve_23 FX8 1 wd196 (by decide) ha2.1 rfl I40 ha2.2.2.1 26 rfl (fun v60 ev60 pv60 qv60 => ?_)
              have wv60 : v60.toInt = (m38 a2 1).toInt := congrArg Int32.toInt ev60
              refine pv_istore (M := mX5_solve) (lo2 := [.ref 112, .ref a0, .ref a1, .ref a2, .int y9, .int y37, .int v60]) dX5_solve_26 28 rfl (by decide) rfl rfl ?_
              have lp67 : ∀ (fuel66 : Nat) (y61 : Int32) (m62 : Nat → Nat → Int32) (n63 : Nat → Nat → Int64), (-1 ≤ y61.toInt) → (y61.toInt ≤ 16) → (y9.toInt ≤ (m62 a0 1).toInt) → (y37.toInt ≤ (m62 a1 1).toInt) → (y61.toInt ≤ (m62 a2 1).toInt) → (TB3 (nR m (p3 a0 a1 a2)) (sR m (p3 a0 a1 a2)) (Hc m62) y9.toInt y37.toInt y61.toInt) → IV BB m62 → fr (wl [(112, 115, none)]) m m62 → ((y61.toInt - (-1)) : Int).toNat < fuel66 → PV none g mX5_solve (sqV T BB (wl [(112, 115, none)]) r m (fun m' => HSF (nR m' (p3 a0 a1 a2)) (sR m' (p3 a0 a1 a2)) (m' 113 1).toInt (fun q => (m' 114 q).toInt))) 3 0 0 28 [.ref 112, .ref a0, .ref a1, .ref a2, .int y9, .int y37, .int y61] [] (mk T m62 n63 r) := by
                intro fuel66
                induction fuel66 with
                | zero => intro y61 m62 n63 b69 b70 b71 b72 b73 b74 I64 K65 z75; omega
                | succ fuel66 ih68 =>
                  intro y61 m62 n63 b69 b70 b71 b72 b73 b74 I64 K65 z75
                  have kg28 := (show TB3 (nR m (p3 a0 a1 a2)) (sR m (p3 a0 a1 a2)) (Hc m62) y9.toInt y37.toInt y61.toInt by assumption)
                  have kF28 : ∀ b j, b ≤ 76 → m62 b j = m b j := fun b j h => K65 b j (wr_out (by omega))
                  have ke280 : (m62 a0 1).toInt = (m a0 1).toInt := congrArg Int32.toInt (kF28 _ _ (by omega))
                  have ke281 : (m62 a1 1).toInt = (m a1 1).toInt := congrArg Int32.toInt (kF28 _ _ (by omega))
                  have ke282 : (m62 a2 1).toInt = (m a2 1).toInt := congrArg Int32.toInt (kF28 _ _ (by omega))
                  have kE28 := nR_eq (m := m) (m2 := m62) (p := (p3 a0 a1 a2)) kF28 (p3_le hp0.2 hp1.2 hp2.2)
                  refine pv_iload (M := mX5_solve) dX5_solve_28 30 rfl rfl ?_
                  refine pv_if_lt (M := mX5_solve) (tgt := 66) dX5_solve_30 33 rfl (by decide) (fun c82 => ?_) (fun c82 => ?_)
                  · have c82 := iv_lt (X := y61.toInt) (Y := 0) c82 rfl (by decide)
                    refine iv_inc (M := mX5_solve) (C := (-1)) dX5_solve_66 69 rfl rfl (by decide) rfl rfl (by decide) (by omega) (by omega) (fun v83 ev83 => ?_)
                    show PV _ _ _ _ _ _ _ 69 [.ref 112, .ref a0, .ref a1, .ref a2, .int y9, .int v83, .int y61] [] _
                    refine pv_goto (M := mX5_solve) (tgt := 17) dX5_solve_69 (by decide) ?_
                    refine pv_fg (lo2 := [.ref 112, .ref a0, .ref a1, .ref a2, .int y9, .int v83, pv_U]) ⟨Or.inr rfl, ⟨Or.inr rfl, ⟨Or.inr rfl, ⟨Or.inr rfl, ⟨Or.inr rfl, ⟨Or.inr rfl, ⟨Or.inl rfl, trivial⟩⟩⟩⟩⟩⟩⟩ ?_
                    have kb17 : TB3 (nR m (p3 a0 a1 a2)) (sR m (p3 a0 a1 a2)) (Hc m62) y9.toInt v83.toInt 16 := TB3_bb kN16 kg28 (by omega) rfl (by omega)
                    exact ih44 v83 m62 n63 (by first | omega | assumption | exact (iv_rng _).2 | exact (iv_rng _).1 | decide) (by first | omega | assumption | exact (iv_rng _).2 | exact (iv_rng _).1 | decide) (by first | omega | assumption | (show y9.toInt ≤ (m62 a0 1).toInt; omega) | decide) (by first | omega | assumption | (show v83.toInt ≤ (m62 a1 1).toInt; omega) | decide) kb17 I64 K65 (by omega)
                  · have c82 := iv_nlt (X := y61.toInt) (Y := 0) c82 rfl (by decide)
                    refine pv_aload_n (M := mX5_solve) 0 dX5_solve_33 34 rfl rfl rfl ?_
                    refine mv_get (M := mX5_solve) (v := .ref 115) dX5_solve_34 FX5 2 wd374 (by decide) (tl112 hT) rfl rfl 37 rfl ?_
                    refine pv_iload (M := mX5_solve) dX5_solve_37 39 rfl rfl ?_
                    refine pv_iload (M := mX5_solve) dX5_solve_39 41 rfl rfl ?_
                    refine pv_iload (M := mX5_solve) dX5_solve_41 43 rfl rfl ?_
                    refine pv_calls (M := mX5_solve) (as := [.int y9, .int y37, .int y61]) (st := [.ref 115]) (kc2 := 0) (ks2 := 0) dX5_solve_43 wd938 YX5_cell wd939 (s_X5_cell_vh g hT I64 y9 (by omega) (by omega) y37 (by omega) (by omega) y61 (by omega) (by omega)) rfl rfl (Nat.le_of_ble_eq_true rfl) (by decide) rfl rfl 46 rfl (fun rv h1 q85 => ?_)
                    obtain ⟨v86, rfl, rfl, pv86, qv86, rv86⟩ := q85
                    replace rv86 : v86.toInt = (17 * y9.toInt + y37.toInt) * 17 + y61.toInt := rv86
                    show PV _ _ _ _ _ _ _ 46 [.ref 112, .ref a0, .ref a1, .ref a2, .int y9, .int y37, .int y61] [.int v86, .ref 115] _
                    have k46 := rv86
                    refine pv_aload_n (M := mX5_solve) 0 dX5_solve_46 47 rfl rfl rfl ?_
                    refine pv_aload_n (M := mX5_solve) 1 dX5_solve_47 48 rfl rfl rfl ?_
                    refine pv_aload_n (M := mX5_solve) 2 dX5_solve_48 49 rfl rfl rfl ?_
                    refine pv_aload_n (M := mX5_solve) 3 dX5_solve_49 50 rfl rfl rfl ?_
                    refine pv_iload (M := mX5_solve) dX5_solve_50 52 rfl rfl ?_
                    refine pv_iload (M := mX5_solve) dX5_solve_52 54 rfl rfl ?_
                    refine pv_iload (M := mX5_solve) dX5_solve_54 56 rfl rfl ?_
                    refine pv_callv (M := mX5_solve) (as := [.ref a0, .ref a1, .ref a2, .int y9, .int y37, .int y61]) (st := [.int v86, .ref 115]) (kc2 := 0) (ks2 := 0) dX5_solve_56 wd941 YX5_mostFrom ⟨wd943, wd36⟩ (mk_get (tl112 hT)) rfl rfl (s_X5_mostFrom_vh g hT I64 a0 ha0 a1 ha1 a2 ha2 y9 (by omega) (by omega) y37 (by omega) (by omega) y61 (by omega) (by omega) (by first | omega | assumption | exact (iv_rng _).2 | exact (iv_rng _).1 | decide) (by first | omega | assumption | exact (iv_rng _).2 | exact (iv_rng _).1 | decide) (by first | omega | assumption | exact (iv_rng _).2 | exact (iv_rng _).1 | decide) (by rw [kE28.1, kE28.2]; exact kg28)) rfl rfl (Nat.le_of_ble_eq_true rfl) (by decide) rfl rfl 59 rfl (fun rv h1 q88 => ?_)
                    obtain ⟨v89, rfl, rfl, pv89, qv89, rv89⟩ := q88
                    replace rv89 : MX1 (nR m62 (p3 a0 a1 a2)) (sR m62 (p3 a0 a1 a2)) y9.toInt y37.toInt y61.toInt v89.toInt := rv89
                    show PV _ _ _ _ _ _ _ 59 [.ref 112, .ref a0, .ref a1, .ref a2, .int y9, .int y37, .int y61] [.int v89, .int v86, .ref 115] _
                    have k59 : MX1 (nR m (p3 a0 a1 a2)) (sR m (p3 a0 a1 a2)) y9.toInt y37.toInt y61.toInt v89.toInt := by have q := rv89; rw [kE28.1, kE28.2] at q; exact q
                    refine iv_iast (M := mX5_solve) (X := v86.toInt) (l1 := (-2147483648)) (l2 := 2147483647) dX5_solve_59 (tl115 hT) rfl (by omega) (by omega) I64 (fun _ => rfl) (iv_rng v89).1 (iv_rng v89).2 60 rfl (fun m91 e94 I92 => ?_)
                    have K93 := K65.set e94 (wl_r (by omega) (by omega))
                    have w95 : (m91 a0 1).toInt = (m62 a0 1).toInt := by rw [e94, up2_ne (by omega)]
                    have w96 : (m91 a1 1).toInt = (m62 a1 1).toInt := by rw [e94, up2_ne (by omega)]
                    have w97 : (m91 a2 1).toInt = (m62 a2 1).toInt := by rw [e94, up2_ne (by omega)]
                    have k60 := (e94).trans (up2_ix (j := hidx y9.toInt y37.toInt y61.toInt) (by unfold hidx; omega))
                    have k60t := TB3_set (C2 := y61.toInt - 1) kN16 kg28 k60 ⟨by omega, by omega, by omega, by omega, by omega, by omega⟩ k59 rfl
                    refine iv_inc (M := mX5_solve) (C := (-1)) dX5_solve_60 63 rfl rfl (by decide) rfl rfl (by decide) (by omega) (by omega) (fun v100 ev100 => ?_)
                    show PV _ _ _ _ _ _ _ 63 [.ref 112, .ref a0, .ref a1, .ref a2, .int y9, .int y37, .int v100] [] _
                    refine pv_goto (M := mX5_solve) (tgt := 28) dX5_solve_63 (by decide) ?_
                    have kb28 : TB3 (nR m (p3 a0 a1 a2)) (sR m (p3 a0 a1 a2)) (Hc m91) y9.toInt y37.toInt v100.toInt := by rw [show v100.toInt = y61.toInt - 1 by omega]; exact k60t
                    exact ih68 v100 m91 n63 (by first | omega | assumption | exact (iv_rng _).2 | exact (iv_rng _).1 | decide) (by first | omega | assumption | exact (iv_rng _).2 | exact (iv_rng _).1 | decide) (by first | omega | assumption | (show y9.toInt ≤ (m91 a0 1).toInt; omega) | decide) (by first | omega | assumption | (show y37.toInt ≤ (m91 a1 1).toInt; omega) | decide) (by first | omega | assumption | (show v100.toInt ≤ (m91 a2 1).toInt; omega) | decide) kb28 I92 K93 (by omega)
              exact lp67 (((v60.toInt - (-1)) : Int).toNat + 1) v60 m38 n39 (by first | omega | assumption | exact (iv_rng _).2 | exact (iv_rng _).1 | decide) (by first | omega | assumption | exact (iv_rng _).2 | exact (iv_rng _).1 | decide) (by first | omega | assumption | (show y9.toInt ≤ (m38 a0 1).toInt; omega) | decide) (by first | omega | assumption | (show y37.toInt ≤ (m38 a1 1).toInt; omega) | decide) (by first | omega | assumption | (show v60.toInt ≤ (m38 a2 1).toInt; omega) | decide) (TB3_c kN16 kg17 (by omega)) I40 K41 (by omega)
        exact lp43 (((v36.toInt - (-1)) : Int).toNat + 1) v36 m10 n11 (by first | omega | assumption | exact (iv_rng _).2 | exact (iv_rng _).1 | decide) (by first | omega | assumption | exact (iv_rng _).2 | exact (iv_rng _).1 | decide) (by first | omega | assumption | (show y9.toInt ≤ (m10 a0 1).toInt; omega) | decide) (by first | omega | assumption | (show v36.toInt ≤ (m10 a1 1).toInt; omega) | decide) (TB3_b kN16 kg6 (by omega)) I12 K13 (by omega)
  exact lp15 (((v8.toInt - (-1)) : Int).toNat + 1) v8 m n (by first | omega | assumption | exact (iv_rng _).2 | exact (iv_rng _).1 | decide) (by first | omega | assumption | exact (iv_rng _).2 | exact (iv_rng _).1 | decide) (by first | omega | assumption | (show v8.toInt ≤ (m a0 1).toInt; omega) | decide) (TB3_a kN16 (by omega)) I Kp (by omega)

set_option maxHeartbeats 2000000 in
set_option maxRecDepth 20000 in
theorem s_X11_deedAmong_vh (g : pv_G) {T : List mv_T} {m : Nat → Nat → Int32} {n : Nat → Nat → Int64} {r : Nat → Value} {la lb : Nat} (hT : TX T) (I : IV BB m) (R : RX T r la lb) (x0 : Int32) (x1 : Int32) (hl1 : 0 ≤ x1.toInt) (hh1 : x1.toInt ≤ 2) (hp0 : x1.toInt.toNat < (mbs x0 8).length) : PM g mX11_deedAmong yX11_deedAmong (sqPA (mk T m n r) (fun a => RowAt T a 16 ∧ DAK x0 x1.toInt.toNat a)) 2 0 0 [.ref 0, .int x0, .int x1] (mk T m n r) := by
  have Kp : fr (wl []) m m := fr.rf
  have R0 := R
  have zR := R.2.2.2.2.1.1
  have zR2 := R.2.2.2.2.2.1
  refine PM.of 3 (lo := [.ref 0, .int x0, .int x1, pv_U, pv_U, pv_U]) rfl (by decide) rfl rfl (Nat.le_of_ble_eq_true rfl) ?_
  refine pv_iconst (M := mX11_deedAmong) (v := 0) dX11_deedAmong_0 1 rfl (by decide) ?_
  refine pv_istore_n (M := mX11_deedAmong) 3 (lo2 := [.ref 0, .int x0, .int x1, .int 0, pv_U, pv_U]) dX11_deedAmong_1 2 rfl rfl (by decide) rfl rfl ?_
  refine pv_iconst (M := mX11_deedAmong) (v := 0) dX11_deedAmong_2 3 rfl (by decide) ?_
  refine pv_istore (M := mX11_deedAmong) (lo2 := [.ref 0, .int x0, .int x1, .int 0, .int 0, pv_U]) dX11_deedAmong_3 5 rfl (by decide) rfl rfl ?_
  refine pv_iconst (M := mX11_deedAmong) (v := 0) dX11_deedAmong_5 6 rfl (by decide) ?_
  refine pv_istore (M := mX11_deedAmong) (lo2 := [.ref 0, .int x0, .int x1, .int 0, .int 0, .int 0]) dX11_deedAmong_6 8 rfl (by decide) rfl rfl ?_
  have lp9 : ∀ (fuel8 : Nat) (y1 : Int32) (y2 : Int32) (y3 : Int32), (0 ≤ y1.toInt) → (y1.toInt ≤ 7) → (0 ≤ y2.toInt) → (y2.toInt ≤ 8) → (0 ≤ y3.toInt) → (y3.toInt ≤ 8) → (y2.toInt ≤ x1.toInt + 1) → (DAM x0 y3.toInt.toNat y1.toInt y2.toInt) → ((8 - y3.toInt) : Int).toNat < fuel8 → PV none g mX11_deedAmong (sqPA (mk T m n r) (fun a => RowAt T a 16 ∧ DAK x0 x1.toInt.toNat a)) 2 0 0 8 [.ref 0, .int x0, .int x1, .int y1, .int y2, .int y3] [] (mk T m n r) := by
    intro fuel8
    induction fuel8 with
    | zero => intro y1 y2 y3 b11 b12 b13 b14 b15 b16 b17 b18 z19; omega
    | succ fuel8 ih10 =>
      intro y1 y2 y3 b11 b12 b13 b14 b15 b16 b17 b18 z19
      have kg := (show DAM x0 y3.toInt.toNat y1.toInt y2.toInt by assumption)
      refine pv_iload (M := mX11_deedAmong) dX11_deedAmong_8 10 rfl rfl ?_
      refine pv_bipush (M := mX11_deedAmong) (v := 8) dX11_deedAmong_10 12 rfl (by decide) ?_
      refine pv_icmp_ge (M := mX11_deedAmong) (tgt := 42) dX11_deedAmong_12 15 rfl (by decide) (fun c21 => ?_) (fun c21 => ?_)
      · have c21 := iv_le (X := 8) (Y := y3.toInt) c21 (by decide) rfl
        refine pv_aload_n (M := mX11_deedAmong) 0 dX11_deedAmong_42 43 rfl rfl rfl ?_
        refine mv_get (M := mX11_deedAmong) (v := .ref 60) dX11_deedAmong_43 FX11 3 wd410 (by decide) (tl0 hT) rfl rfl 46 rfl ?_
        refine pv_iload_n (M := mX11_deedAmong) 3 dX11_deedAmong_46 47 rfl rfl rfl ?_
        refine iv_qdeed (M := mX11_deedAmong) (X := y1.toInt) dX11_deedAmong_47 hT R rfl (by omega) (by omega) 48 rfl (fun b22 eb22 hb22 => ?_)
        have zb22 := hb22.2.2.2.2
        exact pv_aret (M := mX11_deedAmong) dX11_deedAmong_48 rfl ⟨_, rfl, rfl, ⟨hb22, y1.toInt.toNat, DAM_end kg (by omega) hp0 (by omega) (by omega), by omega⟩⟩
      · have c21 := iv_nle (X := 8) (Y := y3.toInt) c21 (by decide) rfl
        refine pv_iload (M := mX11_deedAmong) dX11_deedAmong_15 17 rfl rfl ?_
        refine pv_iload_n (M := mX11_deedAmong) 2 dX11_deedAmong_17 18 rfl rfl rfl ?_
        refine pv_icmp_gt (M := mX11_deedAmong) (tgt := 42) dX11_deedAmong_18 21 rfl (by decide) (fun c23 => ?_) (fun c23 => ?_)
        · have c23 := iv_lt (X := x1.toInt) (Y := y2.toInt) c23 rfl rfl
          refine pv_aload_n (M := mX11_deedAmong) 0 dX11_deedAmong_42 43 rfl rfl rfl ?_
          refine mv_get (M := mX11_deedAmong) (v := .ref 60) dX11_deedAmong_43 FX11 3 wd410 (by decide) (tl0 hT) rfl rfl 46 rfl ?_
          refine pv_iload_n (M := mX11_deedAmong) 3 dX11_deedAmong_46 47 rfl rfl rfl ?_
          refine iv_qdeed (M := mX11_deedAmong) (X := y1.toInt) dX11_deedAmong_47 hT R rfl (by omega) (by omega) 48 rfl (fun b24 eb24 hb24 => ?_)
          have zb24 := hb24.2.2.2.2
          exact pv_aret (M := mX11_deedAmong) dX11_deedAmong_48 rfl ⟨_, rfl, rfl, ⟨hb24, y1.toInt.toNat, DAM_end kg (by omega) hp0 (by omega) (by omega), by omega⟩⟩
        · have c23 := iv_nlt (X := x1.toInt) (Y := y2.toInt) c23 rfl rfl
          refine pv_iload_n (M := mX11_deedAmong) 1 dX11_deedAmong_21 22 rfl rfl rfl ?_
          refine pv_iload (M := mX11_deedAmong) dX11_deedAmong_22 24 rfl rfl ?_
          refine pv_calls (M := mX11_deedAmong) (as := [.int x0, .int y3]) (st := []) (kc2 := 0) (ks2 := 0) dX11_deedAmong_24 wd931 YX11_isAmong wd932 (s_X11_isAmong g hT I x0 y3) rfl rfl (Nat.le_of_ble_eq_true rfl) (by decide) rfl rfl 27 rfl (fun rv h1 q25 => ?_)
          obtain ⟨v26, rfl, rfl, pv26, qv26, rv26⟩ := q25
          replace rv26 : v26 = amv x0 y3 := rv26
          show PV _ _ _ _ _ _ _ 27 [.ref 0, .int x0, .int x1, .int y1, .int y2, .int y3] [.int v26] _
          have k27 : (amv x0 (Int32.ofInt (y3.toInt.toNat : Nat))).toInt = v26.toInt := by rw [ofn (by omega), rv26]
          refine pv_if_eq (M := mX11_deedAmong) (tgt := 36) dX11_deedAmong_27 30 rfl (by decide) (fun c28 => ?_) (fun c28 => ?_)
          · have c28 := iv_eq (X := v26.toInt) (Y := 0) c28 rfl (by decide)
            refine iv_inc (M := mX11_deedAmong) (C := 1) dX11_deedAmong_36 39 rfl rfl (by decide) rfl rfl (by decide) (by omega) (by omega) (fun v29 ev29 => ?_)
            show PV _ _ _ _ _ _ _ 39 [.ref 0, .int x0, .int x1, .int y1, .int y2, .int v29] [] _
            refine pv_goto (M := mX11_deedAmong) (tgt := 8) dX11_deedAmong_39 (by decide) ?_
            have kb : DAM x0 v29.toInt.toNat y1.toInt y2.toInt := by rw [show v29.toInt.toNat = (y3.toInt).toNat + 1 by omega]; first | exact DAM_no kg (by omega) | exact DAM_yes kg (by omega) (by omega) (by omega)
            exact ih10 y1 y2 v29 (by first | omega | assumption | exact (iv_rng _).2 | exact (iv_rng _).1 | decide) (by first | omega | assumption | exact (iv_rng _).2 | exact (iv_rng _).1 | decide) (by first | omega | assumption | exact (iv_rng _).2 | exact (iv_rng _).1 | decide) (by first | omega | assumption | exact (iv_rng _).2 | exact (iv_rng _).1 | decide) (by first | omega | assumption | exact (iv_rng _).2 | exact (iv_rng _).1 | decide) (by first | omega | assumption | exact (iv_rng _).2 | exact (iv_rng _).1 | decide) (by first | omega | assumption | (show y2.toInt ≤ x1.toInt + 1; omega) | decide) kb (by omega)
          · have c28 := iv_ne (X := v26.toInt) (Y := 0) c28 rfl (by decide)
            refine pv_iload (M := mX11_deedAmong) dX11_deedAmong_30 32 rfl rfl ?_
            refine pv_istore_n (M := mX11_deedAmong) 3 (lo2 := [.ref 0, .int x0, .int x1, .int y3, .int y2, .int y3]) dX11_deedAmong_32 33 rfl rfl (by decide) rfl rfl ?_
            refine iv_inc (M := mX11_deedAmong) (C := 1) dX11_deedAmong_33 36 rfl rfl (by decide) rfl rfl (by decide) (by omega) (by omega) (fun v31 ev31 => ?_)
            show PV _ _ _ _ _ _ _ 36 [.ref 0, .int x0, .int x1, .int y3, .int v31, .int y3] [] _
            refine iv_inc (M := mX11_deedAmong) (C := 1) dX11_deedAmong_36 39 rfl rfl (by decide) rfl rfl (by decide) (by omega) (by omega) (fun v32 ev32 => ?_)
            show PV _ _ _ _ _ _ _ 39 [.ref 0, .int x0, .int x1, .int y3, .int v31, .int v32] [] _
            refine pv_goto (M := mX11_deedAmong) (tgt := 8) dX11_deedAmong_39 (by decide) ?_
            have kb : DAM x0 v32.toInt.toNat y3.toInt v31.toInt := by rw [show v32.toInt.toNat = (y3.toInt).toNat + 1 by omega]; first | exact DAM_no kg (by omega) | exact DAM_yes kg (by omega) (by omega) (by omega)
            exact ih10 y3 v31 v32 (by first | omega | assumption | exact (iv_rng _).2 | exact (iv_rng _).1 | decide) (by first | omega | assumption | exact (iv_rng _).2 | exact (iv_rng _).1 | decide) (by first | omega | assumption | exact (iv_rng _).2 | exact (iv_rng _).1 | decide) (by first | omega | assumption | exact (iv_rng _).2 | exact (iv_rng _).1 | decide) (by first | omega | assumption | exact (iv_rng _).2 | exact (iv_rng _).1 | decide) (by first | omega | assumption | exact (iv_rng _).2 | exact (iv_rng _).1 | decide) (by first | omega | assumption | (show v31.toInt ≤ x1.toInt + 1; omega) | decide) kb (by omega)
  have z34 : (0 : Int32).toInt = 0 := by decide
  have z35 : (0 : Int32).toInt = 0 := by decide
  have z36 : (0 : Int32).toInt = 0 := by decide
  exact lp9 (((8 - 0) : Int).toNat + 1) 0 0 0 (by first | omega | assumption | exact (iv_rng _).2 | exact (iv_rng _).1 | decide) (by first | omega | assumption | exact (iv_rng _).2 | exact (iv_rng _).1 | decide) (by first | omega | assumption | exact (iv_rng _).2 | exact (iv_rng _).1 | decide) (by first | omega | assumption | exact (iv_rng _).2 | exact (iv_rng _).1 | decide) (by first | omega | assumption | exact (iv_rng _).2 | exact (iv_rng _).1 | decide) (by first | omega | assumption | exact (iv_rng _).2 | exact (iv_rng _).1 | decide) (by first | omega | assumption | (show 0 ≤ x1.toInt + 1; omega) | decide) (by rw [Int32.toInt_zero]; exact DAM_0) (by omega)

set_option maxHeartbeats 2000000 in
set_option maxRecDepth 20000 in
theorem s_X11_hidden_vh (g : pv_G) {T : List mv_T} {m : Nat → Nat → Int32} {n : Nat → Nat → Int64} {r : Nat → Value} {la lb : Nat} (hT : TX T) (I : IV BB m) (R : RX T r la lb) (x0 : Int32) (x1 : Int32) (hp0 : CHD m) : PM g mX11_hidden yX11_hidden (sqI T BB wF r m (-2147483648) 2147483647 (fun m' v => HDV (H1 m x0) (nR m (pdk x0)) (sR m (pdk x0)) x1.toInt v.toInt ∧ CHD m')) 4 0 0 [.ref 0, .int x0, .int x1] (mk T m n r) := by
  have Kp : fr wF m m := fr.rf
  have R0 := R
  have zR := R.2.2.2.2.1.1
  have zR2 := R.2.2.2.2.2.1
  refine PM.of 2 (lo := [.ref 0, .int x0, .int x1, pv_U, pv_U]) rfl (by decide) rfl rfl (Nat.le_of_ble_eq_true rfl) ?_
  refine pv_iload_n (M := mX11_hidden) 1 dX11_hidden_0 1 rfl rfl rfl ?_
  refine pv_calls (M := mX11_hidden) (as := [.int x0]) (st := []) (kc2 := 0) (ks2 := 0) dX11_hidden_1 wd913 YJ6_bitCount_0f7a4 wd914 (s_J6_bitCount_0f7a4 g hT I x0) rfl rfl (Nat.le_of_ble_eq_true rfl) (by decide) rfl rfl 4 rfl (fun rv h1 q1 => ?_)
  obtain ⟨v2, rfl, rfl, pv2, qv2, rv2⟩ := q1
  replace rv2 : v2 = bcn x0 := rv2
  show PV _ _ _ _ _ _ _ 4 [.ref 0, .int x0, .int x1, pv_U, pv_U] [.int v2] _
  have k4 : (bcn x0).toInt = v2.toInt := by rw [rv2]
  refine pv_istore_n (M := mX11_hidden) 3 (lo2 := [.ref 0, .int x0, .int x1, .int v2, pv_U]) dX11_hidden_4 5 rfl rfl (by decide) rfl rfl ?_
  refine pv_aload_n (M := mX11_hidden) 0 dX11_hidden_5 6 rfl rfl rfl ?_
  refine pv_iload_n (M := mX11_hidden) 1 dX11_hidden_6 7 rfl rfl rfl ?_
  refine pv_callv (M := mX11_hidden) (as := [.int x0]) (st := []) (kc2 := 0) (ks2 := 0) dX11_hidden_7 wd919 YX11_areDeeds ⟨wd921, wd33⟩ (mk_get (tl0 hT)) rfl rfl (s_X11_areDeeds g hT I R x0) rfl rfl (Nat.le_of_ble_eq_true rfl) (by decide) rfl rfl 10 rfl (fun rv h1 q4 => ?_)
  obtain ⟨v5, rfl, rfl, pv5, qv5, rv5⟩ := q4
  replace rv5 : v5 = adv m x0 := rv5
  show PV _ _ _ _ _ _ _ 10 [.ref 0, .int x0, .int x1, .int v2, pv_U] [.int v5] _
  have k10 : (adv m x0).toInt = v5.toInt := by rw [rv5]
  refine pv_if_eq (M := mX11_hidden) (tgt := 28) dX11_hidden_10 13 rfl (by decide) (fun c7 => ?_) (fun c7 => ?_)
  · have c7 := iv_eq (X := v5.toInt) (Y := 0) c7 rfl (by decide)
    refine pv_iconst (M := mX11_hidden) (v := (-1)) dX11_hidden_28 29 rfl (by decide) ?_
    have z8 : ((-1) : Int32).toInt = (-1) := by decide
    exact pv_iret (M := mX11_hidden) dX11_hidden_29 rfl rfl ⟨_, _, _, rfl, rfl, I, Kp, by decide, by decide, ⟨Or.inl ⟨by first | exact Or.inl (by omega) | exact Or.inr (fun q => by have q1 := q.1; have q2 := q.2.1; have q3 := q.2.2; omega), by decide⟩, hp0⟩⟩
  · have c7 := iv_ne (X := v5.toInt) (Y := 0) c7 rfl (by decide)
    refine pv_iload_n (M := mX11_hidden) 3 dX11_hidden_13 14 rfl rfl rfl ?_
    refine pv_iconst (M := mX11_hidden) (v := 2) dX11_hidden_14 15 rfl (by decide) ?_
    refine pv_icmp_lt (M := mX11_hidden) (tgt := 28) dX11_hidden_15 18 rfl (by decide) (fun c9 => ?_) (fun c9 => ?_)
    · have c9 := iv_lt (X := v2.toInt) (Y := 2) c9 rfl (by decide)
      refine pv_iconst (M := mX11_hidden) (v := (-1)) dX11_hidden_28 29 rfl (by decide) ?_
      have z10 : ((-1) : Int32).toInt = (-1) := by decide
      exact pv_iret (M := mX11_hidden) dX11_hidden_29 rfl rfl ⟨_, _, _, rfl, rfl, I, Kp, by decide, by decide, ⟨Or.inl ⟨by first | exact Or.inl (by omega) | exact Or.inr (fun q => by have q1 := q.1; have q2 := q.2.1; have q3 := q.2.2; omega), by decide⟩, hp0⟩⟩
    · have c9 := iv_nlt (X := v2.toInt) (Y := 2) c9 rfl (by decide)
      refine pv_iload_n (M := mX11_hidden) 3 dX11_hidden_18 19 rfl rfl rfl ?_
      refine pv_iconst (M := mX11_hidden) (v := 3) dX11_hidden_19 20 rfl (by decide) ?_
      refine pv_icmp_gt (M := mX11_hidden) (tgt := 28) dX11_hidden_20 23 rfl (by decide) (fun c11 => ?_) (fun c11 => ?_)
      · have c11 := iv_lt (X := 3) (Y := v2.toInt) c11 (by decide) rfl
        refine pv_iconst (M := mX11_hidden) (v := (-1)) dX11_hidden_28 29 rfl (by decide) ?_
        have z12 : ((-1) : Int32).toInt = (-1) := by decide
        exact pv_iret (M := mX11_hidden) dX11_hidden_29 rfl rfl ⟨_, _, _, rfl, rfl, I, Kp, by decide, by decide, ⟨Or.inl ⟨by first | exact Or.inl (by omega) | exact Or.inr (fun q => by have q1 := q.1; have q2 := q.2.1; have q3 := q.2.2; omega), by decide⟩, hp0⟩⟩
      · have c11 := iv_nlt (X := 3) (Y := v2.toInt) c11 (by decide) rfl
        refine pv_iload_n (M := mX11_hidden) 2 dX11_hidden_23 24 rfl rfl rfl ?_
        refine pv_iconst (M := mX11_hidden) (v := (-1)) dX11_hidden_24 25 rfl (by decide) ?_
        refine pv_icmp_ge (M := mX11_hidden) (tgt := 30) dX11_hidden_25 28 rfl (by decide) (fun c13 => ?_) (fun c13 => ?_)
        · have c13 := iv_le (X := (-1)) (Y := x1.toInt) c13 (by decide) rfl
          have kH : H1 m x0 := ⟨by omega, by omega, by omega⟩
          have kHm := H1_mbs kH
          have kHl := kHm.2
          refine pv_aload_n (M := mX11_hidden) 0 dX11_hidden_30 31 rfl rfl rfl ?_
          refine mv_get (M := mX11_hidden) (v := .ref 112) dX11_hidden_31 FX11 11 wd418 (by decide) (tl0 hT) rfl rfl 34 rfl ?_
          refine iv_get (M := mX11_hidden) (l1 := (-2147483648)) (l2 := 2147483647) dX11_hidden_34 FX5 1 wd373 (by decide) (tl112 hT) rfl I rfl 37 rfl (fun v17 ev17 pv17 qv17 => ?_)
          have k37 : v17 = m 112 1 := ev17
          refine pv_iload_n (M := mX11_hidden) 1 dX11_hidden_37 38 rfl rfl rfl ?_
          refine pv_icmp_eq (M := mX11_hidden) (tgt := 88) dX11_hidden_38 41 rfl (by decide) (fun c19 => ?_) (fun c19 => ?_)
          · have c19 := iv_eq (X := v17.toInt) (Y := x0.toInt) c19 rfl rfl
            have k88 : HSC m x0 ∧ CHD m := by first | (have e : m 112 1 = x0 := k37.symm.trans (Int32.toInt_inj.mp (by omega)); exact ⟨by have q := hp0 (by rw [e]; exact kHm.1); rw [e] at q; exact q, hp0⟩) | (have q : HSC m x0 := HSC_eq (fun a j h1 h2 => by rw [noE, up2_ne (by omega)]) (by rw [noE, up2_ne (by omega)]) (fun j => by rw [noE, up2_ne (by omega)]) k80c; exact ⟨q, CHD_of (by rw [noE, up2_eq]) q⟩)
            refine pv_iload_n (M := mX11_hidden) 2 dX11_hidden_88 89 rfl rfl rfl ?_
            refine pv_iconst (M := mX11_hidden) (v := (-1)) dX11_hidden_89 90 rfl (by decide) ?_
            refine pv_icmp_ne (M := mX11_hidden) (tgt := 106) dX11_hidden_90 93 rfl (by decide) (fun c21 => ?_) (fun c21 => ?_)
            · have c21 := iv_ne (X := x1.toInt) (Y := (-1)) c21 rfl (by decide)
              refine pv_aload_n (M := mX11_hidden) 0 dX11_hidden_106 107 rfl rfl rfl ?_
              refine mv_get (M := mX11_hidden) (v := .ref 112) dX11_hidden_107 FX11 11 wd418 (by decide) (tl0 hT) rfl rfl 110 rfl ?_
              refine mv_get (M := mX11_hidden) (v := .ref 113) dX11_hidden_110 FX5 0 wd371 (by decide) (tl112 hT) rfl rfl 113 rfl ?_
              refine pv_iload_n (M := mX11_hidden) 2 dX11_hidden_113 114 rfl rfl rfl ?_
              refine pv_callv (M := mX11_hidden) (as := [.int x1]) (st := []) (kc2 := 0) (ks2 := 0) dX11_hidden_114 wd704 YX8_at ⟨wd705, wd706⟩ (mk_get (tl113 hT)) rfl rfl (s_X8_at g hT I 113 16 (row113 hT) x1) rfl rfl (Nat.le_of_ble_eq_true rfl) (by decide) rfl rfl 117 rfl (fun rv h1 q22 => ?_)
              obtain ⟨v23, rfl, rfl, pv23, qv23, rv23⟩ := q22
              replace rv23 : v23.toInt = atv m 113 x1.toInt := rv23
              show PV _ _ _ _ _ _ _ 117 [.ref 0, .int x0, .int x1, .int v2, pv_U] [.int v23] _
              try have k117 := rv23
              exact pv_iret (M := mX11_hidden) dX11_hidden_117 rfl rfl ⟨_, _, _, rfl, rfl, I, Kp, (iv_rng v23).1, (iv_rng v23).2, ⟨HDV_ok kH (by omega) (fun a j z => Kp a j (wF_isW z)) k88.1 (by first | exact Or.inl ⟨by omega, by omega⟩ | exact Or.inr ⟨by omega, by omega⟩), k88.2⟩⟩
            · have c21 := iv_eq (X := x1.toInt) (Y := (-1)) c21 rfl (by decide)
              refine pv_aload_n (M := mX11_hidden) 0 dX11_hidden_93 94 rfl rfl rfl ?_
              refine mv_get (M := mX11_hidden) (v := .ref 112) dX11_hidden_94 FX11 11 wd418 (by decide) (tl0 hT) rfl rfl 97 rfl ?_
              refine mv_get (M := mX11_hidden) (v := .ref 113) dX11_hidden_97 FX5 0 wd371 (by decide) (tl112 hT) rfl rfl 100 rfl ?_
              refine iv_get (M := mX11_hidden) (l1 := 0) (l2 := 16) dX11_hidden_100 FX8 1 wd200 (by decide) (tl113 hT) rfl I rfl 103 rfl (fun v25 ev25 pv25 qv25 => ?_)
              have k103 : v25.toInt = (m 113 1).toInt := congrArg Int32.toInt ev25
              refine pv_goto (M := mX11_hidden) (tgt := 117) dX11_hidden_103 (by decide) ?_
              try have k117 := rv25
              exact pv_iret (M := mX11_hidden) dX11_hidden_117 rfl rfl ⟨_, _, _, rfl, rfl, I, Kp, (iv_rng v25).1, (iv_rng v25).2, ⟨HDV_ok kH (by omega) (fun a j z => Kp a j (wF_isW z)) k88.1 (by first | exact Or.inl ⟨by omega, by omega⟩ | exact Or.inr ⟨by omega, by omega⟩), k88.2⟩⟩
          · have c19 := iv_ne (X := v17.toInt) (Y := x0.toInt) c19 rfl rfl
            refine pv_aload_n (M := mX11_hidden) 0 dX11_hidden_41 42 rfl rfl rfl ?_
            refine pv_iload_n (M := mX11_hidden) 1 dX11_hidden_42 43 rfl rfl rfl ?_
            refine pv_iconst (M := mX11_hidden) (v := 0) dX11_hidden_43 44 rfl (by decide) ?_
            have z28 : (0 : Int32).toInt = 0 := by decide
            refine pv_callv (M := mX11_hidden) (as := [.int x0, .int 0]) (st := []) (kc2 := 0) (ks2 := 0) dX11_hidden_44 wd927 YX11_deedAmong ⟨wd929, wd35⟩ (mk_get (tl0 hT)) rfl rfl (s_X11_deedAmong_vh g hT I R x0 0 (by decide) (by decide) (by rw [show (0 : Int32).toInt.toNat = 0 by decide]; omega)) rfl rfl (Nat.le_of_ble_eq_true rfl) (by decide) rfl rfl 47 rfl (fun rv h1 q29 => ?_)
            obtain ⟨v30, rfl, rfl, hv30⟩ := q29
            have rv30 := hv30.2
            have hv30 := hv30.1
            have zv30 := hv30.2.2.2.2
            show PV _ _ _ _ _ _ _ 47 [.ref 0, .int x0, .int x1, .int v2, pv_U] [.ref v30] _
            obtain ⟨k0, hk0, ek0⟩ := rv30
            rw [show (0 : Int32).toInt.toNat = 0 by decide] at hk0
            have kl0 := mbs_lt (List.mem_of_getElem? hk0)
            refine pv_astore (M := mX11_hidden) (lo2 := [.ref 0, .int x0, .int x1, .int v2, .ref v30]) dX11_hidden_47 49 rfl (by decide) rfl rfl ?_
            refine pv_aload_n (M := mX11_hidden) 0 dX11_hidden_49 50 rfl rfl rfl ?_
            refine mv_get (M := mX11_hidden) (v := .ref 112) dX11_hidden_50 FX11 11 wd418 (by decide) (tl0 hT) rfl rfl 53 rfl ?_
            refine pv_aload (M := mX11_hidden) dX11_hidden_53 55 rfl rfl ?_
            refine pv_aload_n (M := mX11_hidden) 0 dX11_hidden_55 56 rfl rfl rfl ?_
            refine pv_iload_n (M := mX11_hidden) 1 dX11_hidden_56 57 rfl rfl rfl ?_
            refine pv_iconst (M := mX11_hidden) (v := 1) dX11_hidden_57 58 rfl (by decide) ?_
            have z34 : (1 : Int32).toInt = 1 := by decide
            refine pv_callv (M := mX11_hidden) (as := [.int x0, .int 1]) (st := [.ref v30, .ref 112]) (kc2 := 0) (ks2 := 0) dX11_hidden_58 wd927 YX11_deedAmong ⟨wd929, wd35⟩ (mk_get (tl0 hT)) rfl rfl (s_X11_deedAmong_vh g hT I R x0 1 (by decide) (by decide) (by rw [show (1 : Int32).toInt.toNat = 1 by decide]; omega)) rfl rfl (Nat.le_of_ble_eq_true rfl) (by decide) rfl rfl 61 rfl (fun rv h1 q35 => ?_)
            obtain ⟨v36, rfl, rfl, hv36⟩ := q35
            have rv36 := hv36.2
            have hv36 := hv36.1
            have zv36 := hv36.2.2.2.2
            show PV _ _ _ _ _ _ _ 61 [.ref 0, .int x0, .int x1, .int v2, .ref v30] [.ref v36, .ref v30, .ref 112] _
            obtain ⟨k1, hk1, ek1⟩ := rv36
            rw [show (1 : Int32).toInt.toNat = 1 by decide] at hk1
            have kl1 := mbs_lt (List.mem_of_getElem? hk1)
            refine pv_iload_n (M := mX11_hidden) 3 dX11_hidden_61 62 rfl rfl rfl ?_
            refine pv_iconst (M := mX11_hidden) (v := 3) dX11_hidden_62 63 rfl (by decide) ?_
            refine pv_icmp_ne (M := mX11_hidden) (tgt := 75) dX11_hidden_63 66 rfl (by decide) (fun c40 => ?_) (fun c40 => ?_)
            · have c40 := iv_ne (X := v2.toInt) (Y := 3) c40 rfl (by decide)
              refine pv_aload (M := mX11_hidden) dX11_hidden_75 77 rfl rfl ?_
              have kP : p3 v30 v36 v30 = pdk x0 := by first | exact pdk_of hk0 hk1 (Or.inl hk2) ek0 ek1 ek2 | exact pdk_of hk0 hk1 (Or.inr ⟨List.getElem?_eq_none (by omega), rfl⟩) ek0 ek1 ek0
              refine pv_callv (M := mX11_hidden) (as := [.ref v30, .ref v36, .ref v30]) (st := []) (kc2 := 0) (ks2 := 0) dX11_hidden_77 wd934 YX5_solve ⟨wd935, wd936⟩ (mk_get (tl112 hT)) rfl rfl (s_X5_solve_vh g hT I v30 hv30 v36 hv36 v30 hv30 (by omega) (by omega) (by omega)) rfl rfl (Nat.le_of_ble_eq_true rfl) (by decide) rfl rfl 80 rfl (fun rv h1 q42 => ?_)
              obtain ⟨m43, n44, rfl, rfl, I45, K46, rm43⟩ := q42
              replace rm43 : HSF (nR m43 (p3 v30 v36 v30)) (sR m43 (p3 v30 v36 v30)) (m43 113 1).toInt (fun q => (m43 114 q).toInt) := rm43
              have K46c := K46
              have K46 := Kp.trans (K46.sub (wr_wF (by omega) (by omega)))
              show PV _ _ _ _ _ _ _ 80 [.ref 0, .int x0, .int x1, .int v2, .ref v30] [] _
              have k80 := rm43
              rw [kP] at k80
              have k80c : HSC m43 x0 := k80
              refine pv_aload_n (M := mX11_hidden) 0 dX11_hidden_80 81 rfl rfl rfl ?_
              refine mv_get (M := mX11_hidden) (v := .ref 112) dX11_hidden_81 FX11 11 wd418 (by decide) (tl0 hT) rfl rfl 84 rfl ?_
              refine pv_iload_n (M := mX11_hidden) 1 dX11_hidden_84 85 rfl rfl rfl ?_
              refine iv_put (M := mX11_hidden) (l1 := (-2147483648)) (l2 := 2147483647) dX11_hidden_85 FX5 1 wd373 (by decide) rfl (tl112 hT) rfl rfl rfl I45 rfl (iv_rng x0).1 (iv_rng x0).2 88 rfl (fun m50 e53 I51 => ?_)
              have K52 := K46.set e53 rfl
              have k88 : HSC m50 x0 ∧ CHD m50 := by first | (have e : m 112 1 = x0 := k37.symm.trans (Int32.toInt_inj.mp (by omega)); exact ⟨by have q := hp0 (by rw [e]; exact kHm.1); rw [e] at q; exact q, hp0⟩) | (have q : HSC m50 x0 := HSC_eq (fun a j h1 h2 => by rw [e53, up2_ne (by omega)]) (by rw [e53, up2_ne (by omega)]) (fun j => by rw [e53, up2_ne (by omega)]) k80c; exact ⟨q, CHD_of (by rw [e53, up2_eq]) q⟩)
              refine pv_iload_n (M := mX11_hidden) 2 dX11_hidden_88 89 rfl rfl rfl ?_
              refine pv_iconst (M := mX11_hidden) (v := (-1)) dX11_hidden_89 90 rfl (by decide) ?_
              refine pv_icmp_ne (M := mX11_hidden) (tgt := 106) dX11_hidden_90 93 rfl (by decide) (fun c55 => ?_) (fun c55 => ?_)
              · have c55 := iv_ne (X := x1.toInt) (Y := (-1)) c55 rfl (by decide)
                refine pv_aload_n (M := mX11_hidden) 0 dX11_hidden_106 107 rfl rfl rfl ?_
                refine mv_get (M := mX11_hidden) (v := .ref 112) dX11_hidden_107 FX11 11 wd418 (by decide) (tl0 hT) rfl rfl 110 rfl ?_
                refine mv_get (M := mX11_hidden) (v := .ref 113) dX11_hidden_110 FX5 0 wd371 (by decide) (tl112 hT) rfl rfl 113 rfl ?_
                refine pv_iload_n (M := mX11_hidden) 2 dX11_hidden_113 114 rfl rfl rfl ?_
                refine pv_callv (M := mX11_hidden) (as := [.int x1]) (st := []) (kc2 := 0) (ks2 := 0) dX11_hidden_114 wd704 YX8_at ⟨wd705, wd706⟩ (mk_get (tl113 hT)) rfl rfl (s_X8_at g hT I51 113 16 (row113 hT) x1) rfl rfl (Nat.le_of_ble_eq_true rfl) (by decide) rfl rfl 117 rfl (fun rv h1 q56 => ?_)
                obtain ⟨v57, rfl, rfl, pv57, qv57, rv57⟩ := q56
                replace rv57 : v57.toInt = atv m50 113 x1.toInt := rv57
                show PV _ _ _ _ _ _ _ 117 [.ref 0, .int x0, .int x1, .int v2, .ref v30] [.int v57] _
                try have k117 := rv57
                exact pv_iret (M := mX11_hidden) dX11_hidden_117 rfl rfl ⟨_, _, _, rfl, rfl, I51, K52, (iv_rng v57).1, (iv_rng v57).2, ⟨HDV_ok kH (by omega) (fun a j z => K52 a j (wF_isW z)) k88.1 (by first | exact Or.inl ⟨by omega, by omega⟩ | exact Or.inr ⟨by omega, by omega⟩), k88.2⟩⟩
              · have c55 := iv_eq (X := x1.toInt) (Y := (-1)) c55 rfl (by decide)
                refine pv_aload_n (M := mX11_hidden) 0 dX11_hidden_93 94 rfl rfl rfl ?_
                refine mv_get (M := mX11_hidden) (v := .ref 112) dX11_hidden_94 FX11 11 wd418 (by decide) (tl0 hT) rfl rfl 97 rfl ?_
                refine mv_get (M := mX11_hidden) (v := .ref 113) dX11_hidden_97 FX5 0 wd371 (by decide) (tl112 hT) rfl rfl 100 rfl ?_
                refine iv_get (M := mX11_hidden) (l1 := 0) (l2 := 16) dX11_hidden_100 FX8 1 wd200 (by decide) (tl113 hT) rfl I51 rfl 103 rfl (fun v59 ev59 pv59 qv59 => ?_)
                have k103 : v59.toInt = (m50 113 1).toInt := congrArg Int32.toInt ev59
                refine pv_goto (M := mX11_hidden) (tgt := 117) dX11_hidden_103 (by decide) ?_
                try have k117 := rv59
                exact pv_iret (M := mX11_hidden) dX11_hidden_117 rfl rfl ⟨_, _, _, rfl, rfl, I51, K52, (iv_rng v59).1, (iv_rng v59).2, ⟨HDV_ok kH (by omega) (fun a j z => K52 a j (wF_isW z)) k88.1 (by first | exact Or.inl ⟨by omega, by omega⟩ | exact Or.inr ⟨by omega, by omega⟩), k88.2⟩⟩
            · have c40 := iv_eq (X := v2.toInt) (Y := 3) c40 rfl (by decide)
              refine pv_aload_n (M := mX11_hidden) 0 dX11_hidden_66 67 rfl rfl rfl ?_
              refine pv_iload_n (M := mX11_hidden) 1 dX11_hidden_67 68 rfl rfl rfl ?_
              refine pv_iconst (M := mX11_hidden) (v := 2) dX11_hidden_68 69 rfl (by decide) ?_
              have z62 : (2 : Int32).toInt = 2 := by decide
              refine pv_callv (M := mX11_hidden) (as := [.int x0, .int 2]) (st := [.ref v36, .ref v30, .ref 112]) (kc2 := 0) (ks2 := 0) dX11_hidden_69 wd927 YX11_deedAmong ⟨wd929, wd35⟩ (mk_get (tl0 hT)) rfl rfl (s_X11_deedAmong_vh g hT I R x0 2 (by decide) (by decide) (by rw [show (2 : Int32).toInt.toNat = 2 by decide]; omega)) rfl rfl (Nat.le_of_ble_eq_true rfl) (by decide) rfl rfl 72 rfl (fun rv h1 q63 => ?_)
              obtain ⟨v64, rfl, rfl, hv64⟩ := q63
              have rv64 := hv64.2
              have hv64 := hv64.1
              have zv64 := hv64.2.2.2.2
              show PV _ _ _ _ _ _ _ 72 [.ref 0, .int x0, .int x1, .int v2, .ref v30] [.ref v64, .ref v36, .ref v30, .ref 112] _
              obtain ⟨k2, hk2, ek2⟩ := rv64
              rw [show (2 : Int32).toInt.toNat = 2 by decide] at hk2
              have kl2 := mbs_lt (List.mem_of_getElem? hk2)
              refine pv_goto (M := mX11_hidden) (tgt := 77) dX11_hidden_72 (by decide) ?_
              have kP : p3 v30 v36 v64 = pdk x0 := by first | exact pdk_of hk0 hk1 (Or.inl hk2) ek0 ek1 ek2 | exact pdk_of hk0 hk1 (Or.inr ⟨List.getElem?_eq_none (by omega), rfl⟩) ek0 ek1 ek0
              refine pv_callv (M := mX11_hidden) (as := [.ref v30, .ref v36, .ref v64]) (st := []) (kc2 := 0) (ks2 := 0) dX11_hidden_77 wd934 YX5_solve ⟨wd935, wd936⟩ (mk_get (tl112 hT)) rfl rfl (s_X5_solve_vh g hT I v30 hv30 v36 hv36 v64 hv64 (by omega) (by omega) (by omega)) rfl rfl (Nat.le_of_ble_eq_true rfl) (by decide) rfl rfl 80 rfl (fun rv h1 q69 => ?_)
              obtain ⟨m70, n71, rfl, rfl, I72, K73, rm70⟩ := q69
              replace rm70 : HSF (nR m70 (p3 v30 v36 v64)) (sR m70 (p3 v30 v36 v64)) (m70 113 1).toInt (fun q => (m70 114 q).toInt) := rm70
              have K73c := K73
              have K73 := Kp.trans (K73.sub (wr_wF (by omega) (by omega)))
              show PV _ _ _ _ _ _ _ 80 [.ref 0, .int x0, .int x1, .int v2, .ref v30] [] _
              have k80 := rm70
              rw [kP] at k80
              have k80c : HSC m70 x0 := k80
              refine pv_aload_n (M := mX11_hidden) 0 dX11_hidden_80 81 rfl rfl rfl ?_
              refine mv_get (M := mX11_hidden) (v := .ref 112) dX11_hidden_81 FX11 11 wd418 (by decide) (tl0 hT) rfl rfl 84 rfl ?_
              refine pv_iload_n (M := mX11_hidden) 1 dX11_hidden_84 85 rfl rfl rfl ?_
              refine iv_put (M := mX11_hidden) (l1 := (-2147483648)) (l2 := 2147483647) dX11_hidden_85 FX5 1 wd373 (by decide) rfl (tl112 hT) rfl rfl rfl I72 rfl (iv_rng x0).1 (iv_rng x0).2 88 rfl (fun m77 e80 I78 => ?_)
              have K79 := K73.set e80 rfl
              have k88 : HSC m77 x0 ∧ CHD m77 := by first | (have e : m 112 1 = x0 := k37.symm.trans (Int32.toInt_inj.mp (by omega)); exact ⟨by have q := hp0 (by rw [e]; exact kHm.1); rw [e] at q; exact q, hp0⟩) | (have q : HSC m77 x0 := HSC_eq (fun a j h1 h2 => by rw [e80, up2_ne (by omega)]) (by rw [e80, up2_ne (by omega)]) (fun j => by rw [e80, up2_ne (by omega)]) k80c; exact ⟨q, CHD_of (by rw [e80, up2_eq]) q⟩)
              refine pv_iload_n (M := mX11_hidden) 2 dX11_hidden_88 89 rfl rfl rfl ?_
              refine pv_iconst (M := mX11_hidden) (v := (-1)) dX11_hidden_89 90 rfl (by decide) ?_
              refine pv_icmp_ne (M := mX11_hidden) (tgt := 106) dX11_hidden_90 93 rfl (by decide) (fun c82 => ?_) (fun c82 => ?_)
              · have c82 := iv_ne (X := x1.toInt) (Y := (-1)) c82 rfl (by decide)
                refine pv_aload_n (M := mX11_hidden) 0 dX11_hidden_106 107 rfl rfl rfl ?_
                refine mv_get (M := mX11_hidden) (v := .ref 112) dX11_hidden_107 FX11 11 wd418 (by decide) (tl0 hT) rfl rfl 110 rfl ?_
                refine mv_get (M := mX11_hidden) (v := .ref 113) dX11_hidden_110 FX5 0 wd371 (by decide) (tl112 hT) rfl rfl 113 rfl ?_
                refine pv_iload_n (M := mX11_hidden) 2 dX11_hidden_113 114 rfl rfl rfl ?_
                refine pv_callv (M := mX11_hidden) (as := [.int x1]) (st := []) (kc2 := 0) (ks2 := 0) dX11_hidden_114 wd704 YX8_at ⟨wd705, wd706⟩ (mk_get (tl113 hT)) rfl rfl (s_X8_at g hT I78 113 16 (row113 hT) x1) rfl rfl (Nat.le_of_ble_eq_true rfl) (by decide) rfl rfl 117 rfl (fun rv h1 q83 => ?_)
                obtain ⟨v84, rfl, rfl, pv84, qv84, rv84⟩ := q83
                replace rv84 : v84.toInt = atv m77 113 x1.toInt := rv84
                show PV _ _ _ _ _ _ _ 117 [.ref 0, .int x0, .int x1, .int v2, .ref v30] [.int v84] _
                try have k117 := rv84
                exact pv_iret (M := mX11_hidden) dX11_hidden_117 rfl rfl ⟨_, _, _, rfl, rfl, I78, K79, (iv_rng v84).1, (iv_rng v84).2, ⟨HDV_ok kH (by omega) (fun a j z => K79 a j (wF_isW z)) k88.1 (by first | exact Or.inl ⟨by omega, by omega⟩ | exact Or.inr ⟨by omega, by omega⟩), k88.2⟩⟩
              · have c82 := iv_eq (X := x1.toInt) (Y := (-1)) c82 rfl (by decide)
                refine pv_aload_n (M := mX11_hidden) 0 dX11_hidden_93 94 rfl rfl rfl ?_
                refine mv_get (M := mX11_hidden) (v := .ref 112) dX11_hidden_94 FX11 11 wd418 (by decide) (tl0 hT) rfl rfl 97 rfl ?_
                refine mv_get (M := mX11_hidden) (v := .ref 113) dX11_hidden_97 FX5 0 wd371 (by decide) (tl112 hT) rfl rfl 100 rfl ?_
                refine iv_get (M := mX11_hidden) (l1 := 0) (l2 := 16) dX11_hidden_100 FX8 1 wd200 (by decide) (tl113 hT) rfl I78 rfl 103 rfl (fun v86 ev86 pv86 qv86 => ?_)
                have k103 : v86.toInt = (m77 113 1).toInt := congrArg Int32.toInt ev86
                refine pv_goto (M := mX11_hidden) (tgt := 117) dX11_hidden_103 (by decide) ?_
                try have k117 := rv86
                exact pv_iret (M := mX11_hidden) dX11_hidden_117 rfl rfl ⟨_, _, _, rfl, rfl, I78, K79, (iv_rng v86).1, (iv_rng v86).2, ⟨HDV_ok kH (by omega) (fun a j z => K79 a j (wF_isW z)) k88.1 (by first | exact Or.inl ⟨by omega, by omega⟩ | exact Or.inr ⟨by omega, by omega⟩), k88.2⟩⟩
        · have c13 := iv_nle (X := (-1)) (Y := x1.toInt) c13 (by decide) rfl
          refine pv_iconst (M := mX11_hidden) (v := (-1)) dX11_hidden_28 29 rfl (by decide) ?_
          have z89 : ((-1) : Int32).toInt = (-1) := by decide
          exact pv_iret (M := mX11_hidden) dX11_hidden_29 rfl rfl ⟨_, _, _, rfl, rfl, I, Kp, by decide, by decide, ⟨Or.inl ⟨by first | exact Or.inl (by omega) | exact Or.inr (fun q => by have q1 := q.1; have q2 := q.2.1; have q3 := q.2.2; omega), by decide⟩, hp0⟩⟩
