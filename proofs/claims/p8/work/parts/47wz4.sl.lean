set_option maxHeartbeats 2000000 in
set_option maxRecDepth 20000 in
theorem s_X10_numberAt_va (g : pv_G) {T : List mv_T} {m : Nat → Nat → Int32} {n : Nat → Nat → Int64} {r : Nat → Value} (hT : TX T) (I : IV BB m) (x0 : Int32) (hl0 : 0 ≤ x0.toInt) (hh0 : x0.toInt ≤ 49) : PM g mX10_numberAt yX10_numberAt (sqP (mk T m n r) (-2147483648) 2147483647 (fun v => v = tnF (m 2) (4 * x0.toInt.toNat) 4)) 1 0 0 [.ref 1, .int x0] (mk T m n r) := by
  have Kp : fr (wl []) m m := fr.rf
  refine PM.of 2 (lo := [.ref 1, .int x0, pv_U, pv_U]) rfl (by decide) rfl rfl (Nat.le_of_ble_eq_true rfl) ?_
  refine pv_iconst (M := mX10_numberAt) (v := 0) dX10_numberAt_0 1 rfl (by decide) ?_
  refine pv_istore_n (M := mX10_numberAt) 2 (lo2 := [.ref 1, .int x0, .int 0, pv_U]) dX10_numberAt_1 2 rfl rfl (by decide) rfl rfl ?_
  refine pv_iload_n (M := mX10_numberAt) 1 dX10_numberAt_2 3 rfl rfl rfl ?_
  refine pv_if_lt (M := mX10_numberAt) (tgt := 43) dX10_numberAt_3 6 rfl (by decide) (fun c1 => ?_) (fun c1 => ?_)
  · have c1 := iv_lt (X := x0.toInt) (Y := 0) c1 rfl (by decide)
    omega
  · have c1 := iv_nlt (X := x0.toInt) (Y := 0) c1 rfl (by decide)
    refine pv_iload_n (M := mX10_numberAt) 1 dX10_numberAt_6 7 rfl rfl rfl ?_
    refine pv_bipush (M := mX10_numberAt) (v := 50) dX10_numberAt_7 9 rfl (by decide) ?_
    refine pv_icmp_ge (M := mX10_numberAt) (tgt := 43) dX10_numberAt_9 12 rfl (by decide) (fun c2 => ?_) (fun c2 => ?_)
    · have c2 := iv_le (X := 50) (Y := x0.toInt) c2 (by decide) rfl
      omega
    · have c2 := iv_nle (X := 50) (Y := x0.toInt) c2 (by decide) rfl
      refine pv_iconst (M := mX10_numberAt) (v := 4) dX10_numberAt_12 13 rfl (by decide) ?_
      refine pv_iload_n (M := mX10_numberAt) 1 dX10_numberAt_13 14 rfl rfl rfl ?_
      refine iv_imul (M := mX10_numberAt) (X := 4) (Y := x0.toInt) dX10_numberAt_14 15 rfl (by decide) rfl (by omega) (by omega) (fun v3 ev3 => ?_)
      refine pv_istore_n (M := mX10_numberAt) 3 (lo2 := [.ref 1, .int x0, .int 0, .int v3]) dX10_numberAt_15 16 rfl rfl (by decide) rfl rfl ?_
      have lp11 : ∀ (fuel10 : Nat) (y4 : Int32) (y5 : Int32), (0 ≤ y5.toInt) → (y5.toInt ≤ 200) → (4 * x0.toInt ≤ y5.toInt) → (y5.toInt ≤ 4 * x0.toInt + 4) → (y4 = tnF (m 2) (4 * x0.toInt.toNat) (y5.toInt.toNat - 4 * x0.toInt.toNat)) → ((4 * x0.toInt + 4 - y5.toInt) : Int).toNat < fuel10 → PV none g mX10_numberAt (sqP (mk T m n r) (-2147483648) 2147483647 (fun v => v = tnF (m 2) (4 * x0.toInt.toNat) 4)) 1 0 0 16 [.ref 1, .int x0, .int y4, .int y5] [] (mk T m n r) := by
        intro fuel10
        induction fuel10 with
        | zero => intro y4 y5 b13 b14 b15 b16 b17 z18; omega
        | succ fuel10 ih12 =>
          intro y4 y5 b13 b14 b15 b16 b17 z18
          have kg := (show y4 = tnF (m 2) (4 * x0.toInt.toNat) (y5.toInt.toNat - 4 * x0.toInt.toNat) by assumption)
          refine pv_iload_n (M := mX10_numberAt) 3 dX10_numberAt_16 17 rfl rfl rfl ?_
          refine pv_iconst (M := mX10_numberAt) (v := 4) dX10_numberAt_17 18 rfl (by decide) ?_
          refine pv_iload_n (M := mX10_numberAt) 1 dX10_numberAt_18 19 rfl rfl rfl ?_
          refine iv_imul (M := mX10_numberAt) (X := 4) (Y := x0.toInt) dX10_numberAt_19 20 rfl (by decide) rfl (by omega) (by omega) (fun v20 ev20 => ?_)
          refine pv_iconst (M := mX10_numberAt) (v := 4) dX10_numberAt_20 21 rfl (by decide) ?_
          refine iv_iadd (M := mX10_numberAt) (X := v20.toInt) (Y := 4) dX10_numberAt_21 22 rfl rfl (by decide) (by omega) (by omega) (fun v21 ev21 => ?_)
          refine pv_icmp_ge (M := mX10_numberAt) (tgt := 43) dX10_numberAt_22 25 rfl (by decide) (fun c22 => ?_) (fun c22 => ?_)
          · have c22 := iv_le (X := v21.toInt) (Y := y5.toInt) c22 rfl rfl
            refine pv_iload_n (M := mX10_numberAt) 2 dX10_numberAt_43 44 rfl rfl rfl ?_
            exact pv_iret (M := mX10_numberAt) dX10_numberAt_44 rfl rfl ⟨_, rfl, rfl, (iv_rng y4).1, (iv_rng y4).2, (by (try dsimp only); first | (exfalso; omega) | (rw [kg]; congr 1; omega))⟩
          · have c22 := iv_nle (X := v21.toInt) (Y := y5.toInt) c22 rfl rfl
            refine pv_iload_n (M := mX10_numberAt) 2 dX10_numberAt_25 26 rfl rfl rfl ?_
            refine pv_bipush (M := mX10_numberAt) (v := 8) dX10_numberAt_26 28 rfl (by decide) ?_
            refine iv_shlU (M := mX10_numberAt) dX10_numberAt_28 29 rfl (fun v23 ev23 => ?_)
            have k29 := ev23
            refine pv_aload_n (M := mX10_numberAt) 0 dX10_numberAt_29 30 rfl rfl rfl ?_
            refine mv_get (M := mX10_numberAt) (v := .ref 2) dX10_numberAt_30 FX10 0 wd161 (by decide) (tl1 hT) rfl rfl 33 rfl ?_
            refine pv_iload_n (M := mX10_numberAt) 3 dX10_numberAt_33 34 rfl rfl rfl ?_
            refine iv_iald (M := mX10_numberAt) (X := y5.toInt) (l1 := 0) (l2 := 255) dX10_numberAt_34 (tl2 hT) rfl (by omega) (by omega) I (fun _ => rfl) 35 rfl (fun v25 ev25 pv25 qv25 => ?_)
            have k35 : v25 = m 2 y5.toInt.toNat := ev25
            refine iv_orU (M := mX10_numberAt) dX10_numberAt_35 36 rfl (fun v27 ev27 => ?_)
            have k36 := ev27
            refine pv_istore_n (M := mX10_numberAt) 2 (lo2 := [.ref 1, .int x0, .int v27, .int y5]) dX10_numberAt_36 37 rfl rfl (by decide) rfl rfl ?_
            refine iv_inc (M := mX10_numberAt) (C := 1) dX10_numberAt_37 40 rfl rfl (by decide) rfl rfl (by decide) (by omega) (by omega) (fun v29 ev29 => ?_)
            show PV _ _ _ _ _ _ _ 40 [.ref 1, .int x0, .int v27, .int v29] [] _
            refine pv_goto (M := mX10_numberAt) (tgt := 16) dX10_numberAt_40 (by decide) ?_
            have kb : v27 = tnF (m 2) (4 * x0.toInt.toNat) (v29.toInt.toNat - 4 * x0.toInt.toNat) := by rw [show v29.toInt.toNat - 4 * x0.toInt.toNat = ((y5.toInt).toNat - 4 * x0.toInt.toNat) + 1 by omega, tnF_s, ← kg, show 4 * x0.toInt.toNat + ((y5.toInt).toNat - 4 * x0.toInt.toNat) = (y5.toInt).toNat by omega, k36, k29, k35]
            exact ih12 v27 v29 (by first | omega | assumption | exact (iv_rng _).2 | exact (iv_rng _).1 | decide) (by first | omega | assumption | exact (iv_rng _).2 | exact (iv_rng _).1 | decide) (by first | omega | assumption | (show 4 * x0.toInt ≤ v29.toInt; omega) | decide) (by first | omega | assumption | (show v29.toInt ≤ 4 * x0.toInt + 4; omega) | decide) kb (by omega)
      have z31 : (0 : Int32).toInt = 0 := by decide
      have kin : (0 : Int32) = tnF (m 2) (4 * x0.toInt.toNat) (v3.toInt.toNat - 4 * x0.toInt.toNat) := by rw [show v3.toInt.toNat - 4 * x0.toInt.toNat = 0 by omega]; rfl
      exact lp11 (((4 * x0.toInt + 4 - v3.toInt) : Int).toNat + 1) 0 v3 (by first | omega | assumption | exact (iv_rng _).2 | exact (iv_rng _).1 | decide) (by first | omega | assumption | exact (iv_rng _).2 | exact (iv_rng _).1 | decide) (by first | omega | assumption | (show 4 * x0.toInt ≤ v3.toInt; omega) | decide) (by first | omega | assumption | (show v3.toInt ≤ 4 * x0.toInt + 4; omega) | decide) kin (by omega)

set_option maxHeartbeats 2000000 in
set_option maxRecDepth 20000 in
theorem s_X12_tapeNumber_va (g : pv_G) {T : List mv_T} {m : Nat → Nat → Int32} {n : Nat → Nat → Int64} {r : Nat → Value} (hT : TX T) (I : IV BB m) (x0 : Int32) (hl0 : 0 ≤ x0.toInt) (hh0 : x0.toInt ≤ 49) : PM g mX12_tapeNumber yX12_tapeNumber (sqP (mk T m n r) (-2147483648) 2147483647 (fun v => v = tnF (fun j => m 129 j &&& 255) (4 * x0.toInt.toNat) 4)) 1 0 0 [.ref 123, .int x0] (mk T m n r) := by
  have Kp : fr (wl []) m m := fr.rf
  refine PM.of 2 (lo := [.ref 123, .int x0, pv_U, pv_U]) rfl (by decide) rfl rfl (Nat.le_of_ble_eq_true rfl) ?_
  refine pv_iconst (M := mX12_tapeNumber) (v := 0) dX12_tapeNumber_0 1 rfl (by decide) ?_
  refine pv_istore_n (M := mX12_tapeNumber) 2 (lo2 := [.ref 123, .int x0, .int 0, pv_U]) dX12_tapeNumber_1 2 rfl rfl (by decide) rfl rfl ?_
  refine pv_iconst (M := mX12_tapeNumber) (v := 4) dX12_tapeNumber_2 3 rfl (by decide) ?_
  refine pv_iload_n (M := mX12_tapeNumber) 1 dX12_tapeNumber_3 4 rfl rfl rfl ?_
  refine iv_imul (M := mX12_tapeNumber) (X := 4) (Y := x0.toInt) dX12_tapeNumber_4 5 rfl (by decide) rfl (by omega) (by omega) (fun v1 ev1 => ?_)
  refine pv_istore_n (M := mX12_tapeNumber) 3 (lo2 := [.ref 123, .int x0, .int 0, .int v1]) dX12_tapeNumber_5 6 rfl rfl (by decide) rfl rfl ?_
  have lp9 : ∀ (fuel8 : Nat) (y2 : Int32) (y3 : Int32), (0 ≤ y3.toInt) → (y3.toInt ≤ 200) → (4 * x0.toInt ≤ y3.toInt) → (y3.toInt ≤ 4 * x0.toInt + 4) → (y2 = tnF (fun j => m 129 j &&& 255) (4 * x0.toInt.toNat) (y3.toInt.toNat - 4 * x0.toInt.toNat)) → ((4 * x0.toInt + 4 - y3.toInt) : Int).toNat < fuel8 → PV none g mX12_tapeNumber (sqP (mk T m n r) (-2147483648) 2147483647 (fun v => v = tnF (fun j => m 129 j &&& 255) (4 * x0.toInt.toNat) 4)) 1 0 0 6 [.ref 123, .int x0, .int y2, .int y3] [] (mk T m n r) := by
    intro fuel8
    induction fuel8 with
    | zero => intro y2 y3 b11 b12 b13 b14 b15 z16; omega
    | succ fuel8 ih10 =>
      intro y2 y3 b11 b12 b13 b14 b15 z16
      have kg := (show y2 = tnF (fun j => m 129 j &&& 255) (4 * x0.toInt.toNat) (y3.toInt.toNat - 4 * x0.toInt.toNat) by assumption)
      refine pv_iload_n (M := mX12_tapeNumber) 3 dX12_tapeNumber_6 7 rfl rfl rfl ?_
      refine pv_iconst (M := mX12_tapeNumber) (v := 4) dX12_tapeNumber_7 8 rfl (by decide) ?_
      refine pv_iload_n (M := mX12_tapeNumber) 1 dX12_tapeNumber_8 9 rfl rfl rfl ?_
      refine iv_imul (M := mX12_tapeNumber) (X := 4) (Y := x0.toInt) dX12_tapeNumber_9 10 rfl (by decide) rfl (by omega) (by omega) (fun v18 ev18 => ?_)
      refine pv_iconst (M := mX12_tapeNumber) (v := 4) dX12_tapeNumber_10 11 rfl (by decide) ?_
      refine iv_iadd (M := mX12_tapeNumber) (X := v18.toInt) (Y := 4) dX12_tapeNumber_11 12 rfl rfl (by decide) (by omega) (by omega) (fun v19 ev19 => ?_)
      refine pv_icmp_ge (M := mX12_tapeNumber) (tgt := 37) dX12_tapeNumber_12 15 rfl (by decide) (fun c20 => ?_) (fun c20 => ?_)
      · have c20 := iv_le (X := v19.toInt) (Y := y3.toInt) c20 rfl rfl
        refine pv_iload_n (M := mX12_tapeNumber) 2 dX12_tapeNumber_37 38 rfl rfl rfl ?_
        exact pv_iret (M := mX12_tapeNumber) dX12_tapeNumber_38 rfl rfl ⟨_, rfl, rfl, (iv_rng y2).1, (iv_rng y2).2, (by (try dsimp only); rw [kg]; congr 1; omega)⟩
      · have c20 := iv_nle (X := v19.toInt) (Y := y3.toInt) c20 rfl rfl
        refine pv_iload_n (M := mX12_tapeNumber) 2 dX12_tapeNumber_15 16 rfl rfl rfl ?_
        refine pv_bipush (M := mX12_tapeNumber) (v := 8) dX12_tapeNumber_16 18 rfl (by decide) ?_
        refine iv_shlU (M := mX12_tapeNumber) dX12_tapeNumber_18 19 rfl (fun v21 ev21 => ?_)
        have k19 := ev21
        refine pv_aload_n (M := mX12_tapeNumber) 0 dX12_tapeNumber_19 20 rfl rfl rfl ?_
        refine mv_get (M := mX12_tapeNumber) (v := .ref 129) dX12_tapeNumber_20 FX12 10 wd1183 (by decide) (tl123 hT) rfl rfl 23 rfl ?_
        refine pv_iload_n (M := mX12_tapeNumber) 3 dX12_tapeNumber_23 24 rfl rfl rfl ?_
        refine iv_bald (M := mX12_tapeNumber) (X := y3.toInt) (l1 := (-128)) (l2 := 127) dX12_tapeNumber_24 (tl129 hT) rfl (by omega) (by omega) I (fun _ => rfl) 25 rfl (fun v23 ev23 pv23 qv23 => ?_)
        have k25 : v23 = m 129 y3.toInt.toNat := ev23
        refine pv_sipush (M := mX12_tapeNumber) (v := 255) dX12_tapeNumber_25 28 rfl (by decide) ?_
        refine iv_iandm (M := mX12_tapeNumber) dX12_tapeNumber_28 29 rfl 8 (by decide) (by decide) (fun v25 ev25 pv25 qv25 => ?_)
        have qv25 : v25.toInt < 256 := qv25
        have k29 := ev25
        refine iv_orU (M := mX12_tapeNumber) dX12_tapeNumber_29 30 rfl (fun v27 ev27 => ?_)
        have k30 := ev27
        refine pv_istore_n (M := mX12_tapeNumber) 2 (lo2 := [.ref 123, .int x0, .int v27, .int y3]) dX12_tapeNumber_30 31 rfl rfl (by decide) rfl rfl ?_
        refine iv_inc (M := mX12_tapeNumber) (C := 1) dX12_tapeNumber_31 34 rfl rfl (by decide) rfl rfl (by decide) (by omega) (by omega) (fun v29 ev29 => ?_)
        show PV _ _ _ _ _ _ _ 34 [.ref 123, .int x0, .int v27, .int v29] [] _
        refine pv_goto (M := mX12_tapeNumber) (tgt := 6) dX12_tapeNumber_34 (by decide) ?_
        have kb : v27 = tnF (fun j => m 129 j &&& 255) (4 * x0.toInt.toNat) (v29.toInt.toNat - 4 * x0.toInt.toNat) := by rw [show v29.toInt.toNat - 4 * x0.toInt.toNat = ((y3.toInt).toNat - 4 * x0.toInt.toNat) + 1 by omega, tnF_s, ← kg, show 4 * x0.toInt.toNat + ((y3.toInt).toNat - 4 * x0.toInt.toNat) = (y3.toInt).toNat by omega, k30, k19, k29, k25]
        exact ih10 v27 v29 (by first | omega | assumption | exact (iv_rng _).2 | exact (iv_rng _).1 | decide) (by first | omega | assumption | exact (iv_rng _).2 | exact (iv_rng _).1 | decide) (by first | omega | assumption | (show 4 * x0.toInt ≤ v29.toInt; omega) | decide) (by first | omega | assumption | (show v29.toInt ≤ 4 * x0.toInt + 4; omega) | decide) kb (by omega)
  have z31 : (0 : Int32).toInt = 0 := by decide
  have kin : (0 : Int32) = tnF (fun j => m 129 j &&& 255) (4 * x0.toInt.toNat) (v1.toInt.toNat - 4 * x0.toInt.toNat) := by rw [show v1.toInt.toNat - 4 * x0.toInt.toNat = 0 by omega]; rfl
  exact lp9 (((4 * x0.toInt + 4 - v1.toInt) : Int).toNat + 1) 0 v1 (by first | omega | assumption | exact (iv_rng _).2 | exact (iv_rng _).1 | decide) (by first | omega | assumption | exact (iv_rng _).2 | exact (iv_rng _).1 | decide) (by first | omega | assumption | (show 4 * x0.toInt ≤ v1.toInt; omega) | decide) (by first | omega | assumption | (show v1.toInt ≤ 4 * x0.toInt + 4; omega) | decide) kin (by omega)

set_option maxHeartbeats 2000000 in
set_option maxRecDepth 20000 in
theorem s_X11_check_va (g : pv_G) {T : List mv_T} {m : Nat → Nat → Int32} {n : Nat → Nat → Int64} {r : Nat → Value} {la lb : Nat} (hT : TX T) (I : IV BB m) (R : RX T r la lb) (x0 : Int32) (x1 : Int32) : PM g mX11_check yX11_check (sqI T BB (wl [(1, 1, some 1)]) r m (-2147483648) 2147483647 (fun m' v => CKK x0.toInt x1.toInt (m 0 2).toInt (m 1 1).toInt (m' 1 1).toInt ∧ CHKc ((0 ≤ x0.toInt ∧ x0.toInt < (m 0 2).toInt) ∧ 0 ≤ x1.toInt ∧ 4 * x1.toInt ≤ (m 1 1).toInt) x1.toInt (m (4 + 7 * x0.toInt.toNat + 3) 1).toInt (fun j => tnF (m 2) (4 * j) 4 = m (4 + 7 * x0.toInt.toNat + 4) j) v.toInt)) 2 0 0 [.ref 0, .int x0, .int x1] (mk T m n r) := by
  have Kp : fr (wl [(1, 1, some 1)]) m m := fr.rf
  have R0 := R
  have zR := R.2.2.2.2.1.1
  have zR2 := R.2.2.2.2.2.1
  have z82 : 0 ≤ (m 1 1).toInt ∧ (m 1 1).toInt ≤ 200 := I 1 1
  have z83 : 0 ≤ (m 0 2).toInt ∧ (m 0 2).toInt ≤ 8 := I 0 2
  refine PM.of 2 (lo := [.ref 0, .int x0, .int x1, pv_U, pv_U]) rfl (by decide) rfl rfl (Nat.le_of_ble_eq_true rfl) ?_
  refine pv_aload_n (M := mX11_check) 0 dX11_check_0 1 rfl rfl rfl ?_
  refine pv_iload_n (M := mX11_check) 1 dX11_check_1 2 rfl rfl rfl ?_
  refine pv_callv (M := mX11_check) (as := [.int x0]) (st := []) (kc2 := 0) (ks2 := 0) dX11_check_2 wd700 YX11_isBlank ⟨wd702, wd16⟩ (mk_get (tl0 hT)) rfl rfl (s_X11_isBlank_vx g hT I R x0) rfl rfl (Nat.le_of_ble_eq_true rfl) (by decide) rfl rfl 5 rfl (fun rv h1 q1 => ?_)
  obtain ⟨v2, rfl, rfl, pv2, qv2, rv2⟩ := q1
  replace rv2 : (v2 = 0 ∨ (0 ≤ x0.toInt ∧ x0.toInt ≤ 7)) ∧ ((v2.toInt = 1 ∧ 0 ≤ x0.toInt ∧ x0.toInt < (m 0 2).toInt) ∨ (v2.toInt = 0 ∧ (x0.toInt < 0 ∨ (m 0 2).toInt ≤ x0.toInt))) := rv2
  show PV _ _ _ _ _ _ _ 5 [.ref 0, .int x0, .int x1, pv_U, pv_U] [.int v2] _
  have kB := rv2.2
  refine pv_if_eq (M := mX11_check) (tgt := 25) dX11_check_5 8 rfl (by decide) (fun c4 => ?_) (fun c4 => ?_)
  · have c4 := iv_eq (X := v2.toInt) (Y := 0) c4 rfl (by decide)
    refine pv_bipush (M := mX11_check) (v := (-2)) dX11_check_25 27 rfl (by decide) ?_
    have z5 : ((-2) : Int32).toInt = (-2) := by decide
    exact pv_iret (M := mX11_check) dX11_check_27 rfl rfl ⟨_, _, _, rfl, rfl, I, Kp, by decide, by decide, ⟨(by (try dsimp only); first | exact Or.inr ⟨by omega, by first | omega | rfl⟩ | exact Or.inl ⟨by omega, by omega, by omega, by omega, by first | omega | decide⟩), Or.inl ⟨by omega, by decide⟩⟩⟩
  · have pc4 := rv2.1.resolve_left c4
    have c4 := iv_ne (X := v2.toInt) (Y := 0) c4 rfl (by decide)
    refine pv_iload_n (M := mX11_check) 2 dX11_check_8 9 rfl rfl rfl ?_
    refine pv_if_lt (M := mX11_check) (tgt := 25) dX11_check_9 12 rfl (by decide) (fun c6 => ?_) (fun c6 => ?_)
    · have c6 := iv_lt (X := x1.toInt) (Y := 0) c6 rfl (by decide)
      refine pv_bipush (M := mX11_check) (v := (-2)) dX11_check_25 27 rfl (by decide) ?_
      have z7 : ((-2) : Int32).toInt = (-2) := by decide
      exact pv_iret (M := mX11_check) dX11_check_27 rfl rfl ⟨_, _, _, rfl, rfl, I, Kp, by decide, by decide, ⟨(by (try dsimp only); first | exact Or.inr ⟨by omega, by first | omega | rfl⟩ | exact Or.inl ⟨by omega, by omega, by omega, by omega, by first | omega | decide⟩), Or.inl ⟨by omega, by decide⟩⟩⟩
    · have c6 := iv_nlt (X := x1.toInt) (Y := 0) c6 rfl (by decide)
      refine pv_iload_n (M := mX11_check) 2 dX11_check_12 13 rfl rfl rfl ?_
      refine pv_aload_n (M := mX11_check) 0 dX11_check_13 14 rfl rfl rfl ?_
      refine mv_get (M := mX11_check) (v := .ref 1) dX11_check_14 FX11 0 wd407 (by decide) (tl0 hT) rfl rfl 17 rfl ?_
      refine iv_get (M := mX11_check) (l1 := 0) (l2 := 200) dX11_check_17 FX10 1 wd164 (by decide) (tl1 hT) rfl I rfl 20 rfl (fun v8 ev8 pv8 qv8 => ?_)
      have wv8 : v8.toInt = (m 1 1).toInt := congrArg Int32.toInt ev8
      refine pv_iconst (M := mX11_check) (v := 4) dX11_check_20 21 rfl (by decide) ?_
      refine iv_idiv (M := mX11_check) (X := v8.toInt) (Y := 4) dX11_check_21 22 rfl rfl (by decide) (by omega) (by omega) (fun v9 ev9 => ?_)
      refine pv_icmp_le (M := mX11_check) (tgt := 28) dX11_check_22 25 rfl (by decide) (fun c10 => ?_) (fun c10 => ?_)
      · have c10 := iv_le (X := x1.toInt) (Y := v9.toInt) c10 rfl rfl
        refine pv_aload_n (M := mX11_check) 0 dX11_check_28 29 rfl rfl rfl ?_
        refine mv_get (M := mX11_check) (v := .ref 3) dX11_check_29 FX11 1 wd408 (by decide) (tl0 hT) rfl rfl 32 rfl ?_
        refine pv_iload_n (M := mX11_check) 1 dX11_check_32 33 rfl rfl rfl ?_
        refine iv_qblank (M := mX11_check) (X := x0.toInt) dX11_check_33 hT R rfl (by omega) (by omega) 34 rfl (fun b11 eb11 hb11 => ?_)
        have zb11 := hb11.2.2.2.2.2.2.2
        refine mv_get (M := mX11_check) (v := .ref (b11 + 3)) dX11_check_34 FX0 1 wd210 (by decide) hb11.1 rfl rfl 37 rfl ?_
        refine pv_astore_n (M := mX11_check) 3 (lo2 := [.ref 0, .int x0, .int x1, .ref (b11 + 3), pv_U]) dX11_check_37 38 rfl rfl (by decide) rfl rfl ?_
        have k38 : 0 ≤ (m (4 + 7 * x0.toInt.toNat + 3) 1).toInt := by have q := (I (4 + 7 * x0.toInt.toNat + 3) 1).1; rw [BB_rst (b := x0.toInt.toNat) (by omega)] at q; exact q
        refine pv_iconst (M := mX11_check) (v := 0) dX11_check_38 39 rfl (by decide) ?_
        refine pv_istore (M := mX11_check) (lo2 := [.ref 0, .int x0, .int x1, .ref (b11 + 3), .int 0]) dX11_check_39 41 rfl (by decide) rfl rfl ?_
        have lp19 : ∀ (fuel18 : Nat) (y13 : Int32), (0 ≤ y13.toInt) → (y13.toInt ≤ 50) → (y13.toInt ≤ x1.toInt) → (y13.toInt ≤ (m (4 + 7 * x0.toInt.toNat + 3) 1).toInt) → (∀ j : Nat, (j : Int) < y13.toInt → tnF (m 2) (4 * j) 4 = m (4 + 7 * x0.toInt.toNat + 4) j) → ((50 - y13.toInt) : Int).toNat < fuel18 → PV none g mX11_check (sqI T BB (wl [(1, 1, some 1)]) r m (-2147483648) 2147483647 (fun m' v => CKK x0.toInt x1.toInt (m 0 2).toInt (m 1 1).toInt (m' 1 1).toInt ∧ CHKc ((0 ≤ x0.toInt ∧ x0.toInt < (m 0 2).toInt) ∧ 0 ≤ x1.toInt ∧ 4 * x1.toInt ≤ (m 1 1).toInt) x1.toInt (m (4 + 7 * x0.toInt.toNat + 3) 1).toInt (fun j => tnF (m 2) (4 * j) 4 = m (4 + 7 * x0.toInt.toNat + 4) j) v.toInt)) 2 0 0 41 [.ref 0, .int x0, .int x1, .ref (b11 + 3), .int y13] [] (mk T m n r) := by
          intro fuel18
          induction fuel18 with
          | zero => intro y13 b21 b22 b23 b24 b25 z26; omega
          | succ fuel18 ih20 =>
            intro y13 b21 b22 b23 b24 b25 z26
            have kg := (show ∀ j : Nat, (j : Int) < y13.toInt → tnF (m 2) (4 * j) 4 = m (4 + 7 * x0.toInt.toNat + 4) j by assumption)
            refine pv_iload (M := mX11_check) dX11_check_41 43 rfl rfl ?_
            refine pv_iload_n (M := mX11_check) 2 dX11_check_43 44 rfl rfl rfl ?_
            refine pv_icmp_ge (M := mX11_check) (tgt := 80) dX11_check_44 47 rfl (by decide) (fun c28 => ?_) (fun c28 => ?_)
            · have c28 := iv_le (X := x1.toInt) (Y := y13.toInt) c28 rfl rfl
              have k80 : ((y13.toInt.toNat : Nat) : Int) = x1.toInt ∨ ((y13.toInt.toNat : Nat) : Int) = (m (4 + 7 * x0.toInt.toNat + 3) 1).toInt ∨ ¬ (tnF (m 2) (4 * y13.toInt.toNat) 4 = m (4 + 7 * x0.toInt.toNat + 4) y13.toInt.toNat) := by first | exact Or.inl (by omega) | exact Or.inr (Or.inl (by omega)) | exact Or.inr (Or.inr (fun q => by have q2 := congrArg Int32.toInt ((k65.trans q).trans k71v.symm); omega))
              refine pv_aload_n (M := mX11_check) 0 dX11_check_80 81 rfl rfl rfl ?_
              refine mv_get (M := mX11_check) (v := .ref 1) dX11_check_81 FX11 0 wd407 (by decide) (tl0 hT) rfl rfl 84 rfl ?_
              refine pv_iconst (M := mX11_check) (v := 0) dX11_check_84 85 rfl (by decide) ?_
              refine iv_put (M := mX11_check) (l1 := 0) (l2 := 200) dX11_check_85 FX10 1 wd164 (by decide) rfl (tl1 hT) rfl rfl rfl I rfl (by decide) (by decide) 88 rfl (fun m30 e33 I31 => ?_)
              have K32 := Kp.set e33 rfl
              have w34 : (m30 1 1).toInt = 0 := by rw [e33, up2_eq] <;> rfl
              have w35 : (m30 0 2).toInt = (m 0 2).toInt := by rw [e33, up2_ne (by omega)]
              refine pv_iload (M := mX11_check) dX11_check_88 90 rfl rfl ?_
              refine pv_iload_n (M := mX11_check) 2 dX11_check_90 91 rfl rfl rfl ?_
              refine pv_icmp_ne (M := mX11_check) (tgt := 107) dX11_check_91 94 rfl (by decide) (fun c36 => ?_) (fun c36 => ?_)
              · have c36 := iv_ne (X := y13.toInt) (Y := x1.toInt) c36 rfl rfl
                refine pv_iload (M := mX11_check) dX11_check_107 109 rfl rfl ?_
                exact pv_iret (M := mX11_check) dX11_check_109 rfl rfl ⟨_, _, _, rfl, rfl, I31, K32, (iv_rng y13).1, (iv_rng y13).2, ⟨(by (try dsimp only); first | exact Or.inr ⟨by omega, by first | omega | rfl⟩ | exact Or.inl ⟨by omega, by omega, by omega, by omega, by first | omega | decide⟩), Or.inr ⟨by omega, y13.toInt.toNat, by omega, by omega, (fun j hj => kg j (by omega)), k80, (by (try dsimp only); first | exact Or.inl ⟨by omega, by omega, by decide⟩ | exact Or.inr ⟨by omega, by omega⟩)⟩⟩⟩
              · have c36 := iv_eq (X := y13.toInt) (Y := x1.toInt) c36 rfl rfl
                refine pv_iload (M := mX11_check) dX11_check_94 96 rfl rfl ?_
                refine pv_aload_n (M := mX11_check) 3 dX11_check_96 97 rfl rfl rfl ?_
                refine iv_get (M := mX11_check) (l1 := 0) (l2 := 40) dX11_check_97 FX8 1 wd200 (by decide) hb11.2.2.1.1 rfl I31 hb11.2.2.1.2.2.1 100 rfl (fun v37 ev37 pv37 qv37 => ?_)
                have k100 : v37.toInt = (m (4 + 7 * x0.toInt.toNat + 3) 1).toInt := by have q100 := ev37; rw [e33, up2_ne (by omega)] at q100; exact (congrArg Int32.toInt q100).trans (congrArg (fun z => (m z 1).toInt) (by omega))
                refine pv_icmp_ne (M := mX11_check) (tgt := 107) dX11_check_100 103 rfl (by decide) (fun c39 => ?_) (fun c39 => ?_)
                · have c39 := iv_ne (X := y13.toInt) (Y := v37.toInt) c39 rfl rfl
                  refine pv_iload (M := mX11_check) dX11_check_107 109 rfl rfl ?_
                  exact pv_iret (M := mX11_check) dX11_check_109 rfl rfl ⟨_, _, _, rfl, rfl, I31, K32, (iv_rng y13).1, (iv_rng y13).2, ⟨(by (try dsimp only); first | exact Or.inr ⟨by omega, by first | omega | rfl⟩ | exact Or.inl ⟨by omega, by omega, by omega, by omega, by first | omega | decide⟩), Or.inr ⟨by omega, y13.toInt.toNat, by omega, by omega, (fun j hj => kg j (by omega)), k80, (by (try dsimp only); first | exact Or.inl ⟨by omega, by omega, by decide⟩ | exact Or.inr ⟨by omega, by omega⟩)⟩⟩⟩
                · have c39 := iv_eq (X := y13.toInt) (Y := v37.toInt) c39 rfl rfl
                  refine pv_iconst (M := mX11_check) (v := (-1)) dX11_check_103 104 rfl (by decide) ?_
                  refine pv_goto (M := mX11_check) (tgt := 109) dX11_check_104 (by decide) ?_
                  have z40 : ((-1) : Int32).toInt = (-1) := by decide
                  exact pv_iret (M := mX11_check) dX11_check_109 rfl rfl ⟨_, _, _, rfl, rfl, I31, K32, by decide, by decide, ⟨(by (try dsimp only); first | exact Or.inr ⟨by omega, by first | omega | rfl⟩ | exact Or.inl ⟨by omega, by omega, by omega, by omega, by first | omega | decide⟩), Or.inr ⟨by omega, y13.toInt.toNat, by omega, by omega, (fun j hj => kg j (by omega)), k80, (by (try dsimp only); first | exact Or.inl ⟨by omega, by omega, by decide⟩ | exact Or.inr ⟨by omega, by omega⟩)⟩⟩⟩
            · have c28 := iv_nle (X := x1.toInt) (Y := y13.toInt) c28 rfl rfl
              refine pv_iload (M := mX11_check) dX11_check_47 49 rfl rfl ?_
              refine pv_aload_n (M := mX11_check) 3 dX11_check_49 50 rfl rfl rfl ?_
              refine iv_get (M := mX11_check) (l1 := 0) (l2 := 40) dX11_check_50 FX8 1 wd200 (by decide) hb11.2.2.1.1 rfl I hb11.2.2.1.2.2.1 53 rfl (fun v41 ev41 pv41 qv41 => ?_)
              have k53 : v41.toInt = (m (4 + 7 * x0.toInt.toNat + 3) 1).toInt := (congrArg Int32.toInt ev41).trans (congrArg (fun z => (m z 1).toInt) (by omega))
              refine pv_icmp_ge (M := mX11_check) (tgt := 80) dX11_check_53 56 rfl (by decide) (fun c43 => ?_) (fun c43 => ?_)
              · have c43 := iv_le (X := v41.toInt) (Y := y13.toInt) c43 rfl rfl
                have k80 : ((y13.toInt.toNat : Nat) : Int) = x1.toInt ∨ ((y13.toInt.toNat : Nat) : Int) = (m (4 + 7 * x0.toInt.toNat + 3) 1).toInt ∨ ¬ (tnF (m 2) (4 * y13.toInt.toNat) 4 = m (4 + 7 * x0.toInt.toNat + 4) y13.toInt.toNat) := by first | exact Or.inl (by omega) | exact Or.inr (Or.inl (by omega)) | exact Or.inr (Or.inr (fun q => by have q2 := congrArg Int32.toInt ((k65.trans q).trans k71v.symm); omega))
                refine pv_aload_n (M := mX11_check) 0 dX11_check_80 81 rfl rfl rfl ?_
                refine mv_get (M := mX11_check) (v := .ref 1) dX11_check_81 FX11 0 wd407 (by decide) (tl0 hT) rfl rfl 84 rfl ?_
                refine pv_iconst (M := mX11_check) (v := 0) dX11_check_84 85 rfl (by decide) ?_
                refine iv_put (M := mX11_check) (l1 := 0) (l2 := 200) dX11_check_85 FX10 1 wd164 (by decide) rfl (tl1 hT) rfl rfl rfl I rfl (by decide) (by decide) 88 rfl (fun m45 e48 I46 => ?_)
                have K47 := Kp.set e48 rfl
                have w49 : (m45 1 1).toInt = 0 := by rw [e48, up2_eq] <;> rfl
                have w50 : (m45 0 2).toInt = (m 0 2).toInt := by rw [e48, up2_ne (by omega)]
                refine pv_iload (M := mX11_check) dX11_check_88 90 rfl rfl ?_
                refine pv_iload_n (M := mX11_check) 2 dX11_check_90 91 rfl rfl rfl ?_
                refine pv_icmp_ne (M := mX11_check) (tgt := 107) dX11_check_91 94 rfl (by decide) (fun c51 => ?_) (fun c51 => ?_)
                · have c51 := iv_ne (X := y13.toInt) (Y := x1.toInt) c51 rfl rfl
                  refine pv_iload (M := mX11_check) dX11_check_107 109 rfl rfl ?_
                  exact pv_iret (M := mX11_check) dX11_check_109 rfl rfl ⟨_, _, _, rfl, rfl, I46, K47, (iv_rng y13).1, (iv_rng y13).2, ⟨(by (try dsimp only); first | exact Or.inr ⟨by omega, by first | omega | rfl⟩ | exact Or.inl ⟨by omega, by omega, by omega, by omega, by first | omega | decide⟩), Or.inr ⟨by omega, y13.toInt.toNat, by omega, by omega, (fun j hj => kg j (by omega)), k80, (by (try dsimp only); first | exact Or.inl ⟨by omega, by omega, by decide⟩ | exact Or.inr ⟨by omega, by omega⟩)⟩⟩⟩
                · have c51 := iv_eq (X := y13.toInt) (Y := x1.toInt) c51 rfl rfl
                  refine pv_iload (M := mX11_check) dX11_check_94 96 rfl rfl ?_
                  refine pv_aload_n (M := mX11_check) 3 dX11_check_96 97 rfl rfl rfl ?_
                  refine iv_get (M := mX11_check) (l1 := 0) (l2 := 40) dX11_check_97 FX8 1 wd200 (by decide) hb11.2.2.1.1 rfl I46 hb11.2.2.1.2.2.1 100 rfl (fun v52 ev52 pv52 qv52 => ?_)
                  have k100 : v52.toInt = (m (4 + 7 * x0.toInt.toNat + 3) 1).toInt := by have q100 := ev52; rw [e48, up2_ne (by omega)] at q100; exact (congrArg Int32.toInt q100).trans (congrArg (fun z => (m z 1).toInt) (by omega))
                  refine pv_icmp_ne (M := mX11_check) (tgt := 107) dX11_check_100 103 rfl (by decide) (fun c54 => ?_) (fun c54 => ?_)
                  · have c54 := iv_ne (X := y13.toInt) (Y := v52.toInt) c54 rfl rfl
                    refine pv_iload (M := mX11_check) dX11_check_107 109 rfl rfl ?_
                    exact pv_iret (M := mX11_check) dX11_check_109 rfl rfl ⟨_, _, _, rfl, rfl, I46, K47, (iv_rng y13).1, (iv_rng y13).2, ⟨(by (try dsimp only); first | exact Or.inr ⟨by omega, by first | omega | rfl⟩ | exact Or.inl ⟨by omega, by omega, by omega, by omega, by first | omega | decide⟩), Or.inr ⟨by omega, y13.toInt.toNat, by omega, by omega, (fun j hj => kg j (by omega)), k80, (by (try dsimp only); first | exact Or.inl ⟨by omega, by omega, by decide⟩ | exact Or.inr ⟨by omega, by omega⟩)⟩⟩⟩
                  · have c54 := iv_eq (X := y13.toInt) (Y := v52.toInt) c54 rfl rfl
                    refine pv_iconst (M := mX11_check) (v := (-1)) dX11_check_103 104 rfl (by decide) ?_
                    refine pv_goto (M := mX11_check) (tgt := 109) dX11_check_104 (by decide) ?_
                    have z55 : ((-1) : Int32).toInt = (-1) := by decide
                    exact pv_iret (M := mX11_check) dX11_check_109 rfl rfl ⟨_, _, _, rfl, rfl, I46, K47, by decide, by decide, ⟨(by (try dsimp only); first | exact Or.inr ⟨by omega, by first | omega | rfl⟩ | exact Or.inl ⟨by omega, by omega, by omega, by omega, by first | omega | decide⟩), Or.inr ⟨by omega, y13.toInt.toNat, by omega, by omega, (fun j hj => kg j (by omega)), k80, (by (try dsimp only); first | exact Or.inl ⟨by omega, by omega, by decide⟩ | exact Or.inr ⟨by omega, by omega⟩)⟩⟩⟩
              · have c43 := iv_nle (X := v41.toInt) (Y := y13.toInt) c43 rfl rfl
                refine pv_aload_n (M := mX11_check) 0 dX11_check_56 57 rfl rfl rfl ?_
                refine mv_get (M := mX11_check) (v := .ref 1) dX11_check_57 FX11 0 wd407 (by decide) (tl0 hT) rfl rfl 60 rfl ?_
                refine pv_iload (M := mX11_check) dX11_check_60 62 rfl rfl ?_
                refine pv_callv (M := mX11_check) (as := [.int y13]) (st := []) (kc2 := 0) (ks2 := 0) dX11_check_62 wd1155 YX10_numberAt ⟨wd1156, wd1157⟩ (mk_get (tl1 hT)) rfl rfl (s_X10_numberAt_va g hT I y13 (by omega) (by omega)) rfl rfl (Nat.le_of_ble_eq_true rfl) (by decide) rfl rfl 65 rfl (fun rv h1 q56 => ?_)
                obtain ⟨v57, rfl, rfl, pv57, qv57, rv57⟩ := q56
                replace rv57 : v57 = tnF (m 2) (4 * y13.toInt.toNat) 4 := rv57
                show PV _ _ _ _ _ _ _ 65 [.ref 0, .int x0, .int x1, .ref (b11 + 3), .int y13] [.int v57] _
                have k65 := rv57
                refine pv_aload_n (M := mX11_check) 3 dX11_check_65 66 rfl rfl rfl ?_
                refine pv_iload (M := mX11_check) dX11_check_66 68 rfl rfl ?_
                have k68 : (b11 + 3) = 4 + 7 * x0.toInt.toNat + 3 := by omega
                refine pv_callv (M := mX11_check) (as := [.int y13]) (st := [.int v57]) (kc2 := 0) (ks2 := 0) dX11_check_68 wd704 YX8_at ⟨wd705, wd706⟩ (mk_get hb11.2.2.1.1) rfl rfl (s_X8_at_vz g hT I (b11 + 3) 40 hb11.2.2.1 y13) rfl rfl (Nat.le_of_ble_eq_true rfl) (by decide) rfl rfl 71 rfl (fun rv h1 q60 => ?_)
                obtain ⟨v61, rfl, rfl, pv61, qv61, rv61⟩ := q60
                replace rv61 : (0 ≤ y13.toInt ∧ y13.toInt < (m (b11 + 3) 1).toInt ∧ v61 = m ((b11 + 3) + 1) y13.toInt.toNat) ∨ ((y13.toInt < 0 ∨ (m (b11 + 3) 1).toInt ≤ y13.toInt) ∧ v61.toInt = -1) := rv61
                show PV _ _ _ _ _ _ _ 71 [.ref 0, .int x0, .int x1, .ref (b11 + 3), .int y13] [.int v61, .int v57] _
                have k71 := rv61
                rw [k68] at k71
                have k71v := (k71.resolve_right (fun q => by have q1 := q.1; omega)).2.2
                refine pv_icmp_ne (M := mX11_check) (tgt := 80) dX11_check_71 74 rfl (by decide) (fun c65 => ?_) (fun c65 => ?_)
                · have c65 := iv_ne (X := v57.toInt) (Y := v61.toInt) c65 rfl rfl
                  have k80 : ((y13.toInt.toNat : Nat) : Int) = x1.toInt ∨ ((y13.toInt.toNat : Nat) : Int) = (m (4 + 7 * x0.toInt.toNat + 3) 1).toInt ∨ ¬ (tnF (m 2) (4 * y13.toInt.toNat) 4 = m (4 + 7 * x0.toInt.toNat + 4) y13.toInt.toNat) := by first | exact Or.inl (by omega) | exact Or.inr (Or.inl (by omega)) | exact Or.inr (Or.inr (fun q => by have q2 := congrArg Int32.toInt ((k65.trans q).trans k71v.symm); omega))
                  refine pv_aload_n (M := mX11_check) 0 dX11_check_80 81 rfl rfl rfl ?_
                  refine mv_get (M := mX11_check) (v := .ref 1) dX11_check_81 FX11 0 wd407 (by decide) (tl0 hT) rfl rfl 84 rfl ?_
                  refine pv_iconst (M := mX11_check) (v := 0) dX11_check_84 85 rfl (by decide) ?_
                  refine iv_put (M := mX11_check) (l1 := 0) (l2 := 200) dX11_check_85 FX10 1 wd164 (by decide) rfl (tl1 hT) rfl rfl rfl I rfl (by decide) (by decide) 88 rfl (fun m67 e70 I68 => ?_)
                  have K69 := Kp.set e70 rfl
                  have w71 : (m67 1 1).toInt = 0 := by rw [e70, up2_eq] <;> rfl
                  have w72 : (m67 0 2).toInt = (m 0 2).toInt := by rw [e70, up2_ne (by omega)]
                  refine pv_iload (M := mX11_check) dX11_check_88 90 rfl rfl ?_
                  refine pv_iload_n (M := mX11_check) 2 dX11_check_90 91 rfl rfl rfl ?_
                  refine pv_icmp_ne (M := mX11_check) (tgt := 107) dX11_check_91 94 rfl (by decide) (fun c73 => ?_) (fun c73 => ?_)
                  · have c73 := iv_ne (X := y13.toInt) (Y := x1.toInt) c73 rfl rfl
                    refine pv_iload (M := mX11_check) dX11_check_107 109 rfl rfl ?_
                    exact pv_iret (M := mX11_check) dX11_check_109 rfl rfl ⟨_, _, _, rfl, rfl, I68, K69, (iv_rng y13).1, (iv_rng y13).2, ⟨(by (try dsimp only); first | exact Or.inr ⟨by omega, by first | omega | rfl⟩ | exact Or.inl ⟨by omega, by omega, by omega, by omega, by first | omega | decide⟩), Or.inr ⟨by omega, y13.toInt.toNat, by omega, by omega, (fun j hj => kg j (by omega)), k80, (by (try dsimp only); first | exact Or.inl ⟨by omega, by omega, by decide⟩ | exact Or.inr ⟨by omega, by omega⟩)⟩⟩⟩
                  · have c73 := iv_eq (X := y13.toInt) (Y := x1.toInt) c73 rfl rfl
                    refine pv_iload (M := mX11_check) dX11_check_94 96 rfl rfl ?_
                    refine pv_aload_n (M := mX11_check) 3 dX11_check_96 97 rfl rfl rfl ?_
                    refine iv_get (M := mX11_check) (l1 := 0) (l2 := 40) dX11_check_97 FX8 1 wd200 (by decide) hb11.2.2.1.1 rfl I68 hb11.2.2.1.2.2.1 100 rfl (fun v74 ev74 pv74 qv74 => ?_)
                    have k100 : v74.toInt = (m (4 + 7 * x0.toInt.toNat + 3) 1).toInt := by have q100 := ev74; rw [e70, up2_ne (by omega)] at q100; exact (congrArg Int32.toInt q100).trans (congrArg (fun z => (m z 1).toInt) (by omega))
                    refine pv_icmp_ne (M := mX11_check) (tgt := 107) dX11_check_100 103 rfl (by decide) (fun c76 => ?_) (fun c76 => ?_)
                    · have c76 := iv_ne (X := y13.toInt) (Y := v74.toInt) c76 rfl rfl
                      refine pv_iload (M := mX11_check) dX11_check_107 109 rfl rfl ?_
                      exact pv_iret (M := mX11_check) dX11_check_109 rfl rfl ⟨_, _, _, rfl, rfl, I68, K69, (iv_rng y13).1, (iv_rng y13).2, ⟨(by (try dsimp only); first | exact Or.inr ⟨by omega, by first | omega | rfl⟩ | exact Or.inl ⟨by omega, by omega, by omega, by omega, by first | omega | decide⟩), Or.inr ⟨by omega, y13.toInt.toNat, by omega, by omega, (fun j hj => kg j (by omega)), k80, (by (try dsimp only); first | exact Or.inl ⟨by omega, by omega, by decide⟩ | exact Or.inr ⟨by omega, by omega⟩)⟩⟩⟩
                    · have c76 := iv_eq (X := y13.toInt) (Y := v74.toInt) c76 rfl rfl
                      refine pv_iconst (M := mX11_check) (v := (-1)) dX11_check_103 104 rfl (by decide) ?_
                      refine pv_goto (M := mX11_check) (tgt := 109) dX11_check_104 (by decide) ?_
                      have z77 : ((-1) : Int32).toInt = (-1) := by decide
                      exact pv_iret (M := mX11_check) dX11_check_109 rfl rfl ⟨_, _, _, rfl, rfl, I68, K69, by decide, by decide, ⟨(by (try dsimp only); first | exact Or.inr ⟨by omega, by first | omega | rfl⟩ | exact Or.inl ⟨by omega, by omega, by omega, by omega, by first | omega | decide⟩), Or.inr ⟨by omega, y13.toInt.toNat, by omega, by omega, (fun j hj => kg j (by omega)), k80, (by (try dsimp only); first | exact Or.inl ⟨by omega, by omega, by decide⟩ | exact Or.inr ⟨by omega, by omega⟩)⟩⟩⟩
                · have c65 := iv_eq (X := v57.toInt) (Y := v61.toInt) c65 rfl rfl
                  refine iv_inc (M := mX11_check) (C := 1) dX11_check_74 77 rfl rfl (by decide) rfl rfl (by decide) (by omega) (by omega) (fun v78 ev78 => ?_)
                  show PV _ _ _ _ _ _ _ 77 [.ref 0, .int x0, .int x1, .ref (b11 + 3), .int v78] [] _
                  refine pv_goto (M := mX11_check) (tgt := 41) dX11_check_77 (by decide) ?_
                  have kb : ∀ j : Nat, (j : Int) < v78.toInt → tnF (m 2) (4 * j) 4 = m (4 + 7 * x0.toInt.toNat + 4) j := fun j hj => if z : j = (y13.toInt).toNat then (by rw [z, ← k65]; exact (i_eq (by omega)).trans k71v) else kg j (by omega)
                  exact ih20 v78 (by first | omega | assumption | exact (iv_rng _).2 | exact (iv_rng _).1 | decide) (by first | omega | assumption | exact (iv_rng _).2 | exact (iv_rng _).1 | decide) (by first | omega | assumption | (show v78.toInt ≤ x1.toInt; omega) | decide) (by first | omega | assumption | (show v78.toInt ≤ (m (4 + 7 * x0.toInt.toNat + 3) 1).toInt; omega) | decide) kb (by omega)
        have z80 : (0 : Int32).toInt = 0 := by decide
        exact lp19 (((50 - 0) : Int).toNat + 1) 0 (by first | omega | assumption | exact (iv_rng _).2 | exact (iv_rng _).1 | decide) (by first | omega | assumption | exact (iv_rng _).2 | exact (iv_rng _).1 | decide) (by first | omega | assumption | (show 0 ≤ x1.toInt; omega) | decide) (by first | omega | assumption | (show 0 ≤ (m (4 + 7 * x0.toInt.toNat + 3) 1).toInt; omega) | decide) (fun j hj => by rw [Int32.toInt_zero] at hj; omega) (by omega)
      · have c10 := iv_nle (X := x1.toInt) (Y := v9.toInt) c10 rfl rfl
        refine pv_bipush (M := mX11_check) (v := (-2)) dX11_check_25 27 rfl (by decide) ?_
        have z81 : ((-2) : Int32).toInt = (-2) := by decide
        exact pv_iret (M := mX11_check) dX11_check_27 rfl rfl ⟨_, _, _, rfl, rfl, I, Kp, by decide, by decide, ⟨(by (try dsimp only); first | exact Or.inr ⟨by omega, by first | omega | rfl⟩ | exact Or.inl ⟨by omega, by omega, by omega, by omega, by first | omega | decide⟩), Or.inl ⟨by omega, by decide⟩⟩⟩

set_option maxHeartbeats 2000000 in
set_option maxRecDepth 20000 in
theorem s_X12_check_va (g : pv_G) {T : List mv_T} {m : Nat → Nat → Int32} {n : Nat → Nat → Int64} {r : Nat → Value} (hT : TX T) (I : IV BB m) (x0 : Int32) (x1 : Int32) : PM g mX12_check yX12_check (sqI T BB (wl [(123, 123, some 11), (123, 123, some 40), (149, 149, none)]) r m (-2147483648) 2147483647 (fun m' v => CKK x0.toInt x1.toInt (m 123 0).toInt (m 123 11).toInt (m' 123 11).toInt ∧ CHKr ((0 ≤ x0.toInt ∧ x0.toInt < (m 123 0).toInt) ∧ 0 ≤ x1.toInt ∧ 4 * x1.toInt ≤ (m 123 11).toInt) m x0.toInt.toNat x1.toInt (nu m x0.toInt 0) v.toInt)) 2 0 0 [.ref 123, .int x0, .int x1] (mk T m n r) := by
  have Kp : fr (wl [(123, 123, some 11), (123, 123, some 40), (149, 149, none)]) m m := fr.rf
  have z71 : 0 ≤ (m 123 40).toInt ∧ (m 123 40).toInt ≤ 40 := I 123 40
  have z72 : 0 ≤ (m 123 0).toInt ∧ (m 123 0).toInt ≤ 8 := I 123 0
  have z73 : 0 ≤ (m 123 11).toInt ∧ (m 123 11).toInt ≤ 200 := I 123 11
  have z74 : 0 ≤ (m 123 40).toInt ∧ (m 123 40).toInt ≤ 40 := I 123 40
  refine PM.of 1 (lo := [.ref 123, .int x0, .int x1, pv_U]) rfl (by decide) rfl rfl (Nat.le_of_ble_eq_true rfl) ?_
  refine pv_aload_n (M := mX12_check) 0 dX12_check_0 1 rfl rfl rfl ?_
  refine pv_iload_n (M := mX12_check) 1 dX12_check_1 2 rfl rfl rfl ?_
  refine pv_callv (M := mX12_check) (as := [.int x0]) (st := []) (kc2 := 0) (ks2 := 0) dX12_check_2 wd1389 YX12_isBlank ⟨wd1391, wd55⟩ (mk_get (tl123 hT)) rfl rfl (s_X12_isBlank_vx g hT I x0) rfl rfl (Nat.le_of_ble_eq_true rfl) (by decide) rfl rfl 5 rfl (fun rv h1 q1 => ?_)
  obtain ⟨v2, rfl, rfl, pv2, qv2, rv2⟩ := q1
  replace rv2 : (v2 = 0 ∨ (0 ≤ x0.toInt ∧ x0.toInt ≤ 7)) ∧ ((v2.toInt = 1 ∧ 0 ≤ x0.toInt ∧ x0.toInt < (m 123 0).toInt) ∨ (v2.toInt = 0 ∧ (x0.toInt < 0 ∨ (m 123 0).toInt ≤ x0.toInt))) := rv2
  show PV _ _ _ _ _ _ _ 5 [.ref 123, .int x0, .int x1, pv_U] [.int v2] _
  have kB := rv2.2
  refine pv_if_eq (M := mX12_check) (tgt := 22) dX12_check_5 8 rfl (by decide) (fun c4 => ?_) (fun c4 => ?_)
  · have c4 := iv_eq (X := v2.toInt) (Y := 0) c4 rfl (by decide)
    refine pv_bipush (M := mX12_check) (v := (-2)) dX12_check_22 24 rfl (by decide) ?_
    have z5 : ((-2) : Int32).toInt = (-2) := by decide
    exact pv_iret (M := mX12_check) dX12_check_24 rfl rfl ⟨_, _, _, rfl, rfl, I, Kp, by decide, by decide, ⟨(by (try dsimp only); first | exact Or.inr ⟨by omega, by first | omega | rfl⟩ | exact Or.inl ⟨by omega, by omega, by omega, by omega, by first | omega | decide⟩), Or.inl ⟨by omega, by decide⟩⟩⟩
  · have pc4 := rv2.1.resolve_left c4
    have c4 := iv_ne (X := v2.toInt) (Y := 0) c4 rfl (by decide)
    refine pv_iload_n (M := mX12_check) 2 dX12_check_8 9 rfl rfl rfl ?_
    refine pv_if_lt (M := mX12_check) (tgt := 22) dX12_check_9 12 rfl (by decide) (fun c6 => ?_) (fun c6 => ?_)
    · have c6 := iv_lt (X := x1.toInt) (Y := 0) c6 rfl (by decide)
      refine pv_bipush (M := mX12_check) (v := (-2)) dX12_check_22 24 rfl (by decide) ?_
      have z7 : ((-2) : Int32).toInt = (-2) := by decide
      exact pv_iret (M := mX12_check) dX12_check_24 rfl rfl ⟨_, _, _, rfl, rfl, I, Kp, by decide, by decide, ⟨(by (try dsimp only); first | exact Or.inr ⟨by omega, by first | omega | rfl⟩ | exact Or.inl ⟨by omega, by omega, by omega, by omega, by first | omega | decide⟩), Or.inl ⟨by omega, by decide⟩⟩⟩
    · have c6 := iv_nlt (X := x1.toInt) (Y := 0) c6 rfl (by decide)
      refine pv_iload_n (M := mX12_check) 2 dX12_check_12 13 rfl rfl rfl ?_
      refine pv_aload_n (M := mX12_check) 0 dX12_check_13 14 rfl rfl rfl ?_
      refine iv_get (M := mX12_check) (l1 := 0) (l2 := 200) dX12_check_14 FX12 11 wd1184 (by decide) (tl123 hT) rfl I rfl 17 rfl (fun v8 ev8 pv8 qv8 => ?_)
      have wv8 : v8.toInt = (m 123 11).toInt := congrArg Int32.toInt ev8
      refine pv_iconst (M := mX12_check) (v := 4) dX12_check_17 18 rfl (by decide) ?_
      refine iv_idiv (M := mX12_check) (X := v8.toInt) (Y := 4) dX12_check_18 19 rfl rfl (by decide) (by omega) (by omega) (fun v9 ev9 => ?_)
      refine pv_icmp_le (M := mX12_check) (tgt := 25) dX12_check_19 22 rfl (by decide) (fun c10 => ?_) (fun c10 => ?_)
      · have c10 := iv_le (X := x1.toInt) (Y := v9.toInt) c10 rfl rfl
        refine pv_aload_n (M := mX12_check) 0 dX12_check_25 26 rfl rfl rfl ?_
        refine pv_iconst (M := mX12_check) (v := 0) dX12_check_26 27 rfl (by decide) ?_
        refine iv_put (M := mX12_check) (l1 := 0) (l2 := 200) dX12_check_27 FX12 11 wd1184 (by decide) rfl (tl123 hT) rfl rfl rfl I rfl (by decide) (by decide) 30 rfl (fun m11 e14 I12 => ?_)
        have K13 := Kp.set e14 rfl
        have w15 : (m11 123 40).toInt = (m 123 40).toInt := by rw [e14, up2_ne (by omega)]
        have w16 : (m11 123 0).toInt = (m 123 0).toInt := by rw [e14, up2_ne (by omega)]
        have w17 : (m11 123 11).toInt = 0 := by rw [e14, up2_eq] <;> rfl
        have w18 : (m11 123 40).toInt = (m 123 40).toInt := by rw [e14, up2_ne (by omega)]
        refine pv_aload_n (M := mX12_check) 0 dX12_check_30 31 rfl rfl rfl ?_
        refine pv_iload_n (M := mX12_check) 1 dX12_check_31 32 rfl rfl rfl ?_
        refine pv_iconst (M := mX12_check) (v := 0) dX12_check_32 33 rfl (by decide) ?_
        have k33n : nu m11 x0.toInt 0 = nu m x0.toInt 0 := nu_eq (fun j => by rw [e14, up2_ne (by omega)]) (fun j => by rw [e14, up2_ne (by omega)]) _ _
        have k33a : ∀ a j, a ≠ 123 → m11 a j = m a j := fun a j q => by rw [e14, up2_ne (fun z => q z.1)]
        have z21 : (0 : Int32).toInt = 0 := by decide
        refine pv_callv (M := mX12_check) (as := [.int x0, .int 0]) (st := []) (kc2 := 0) (ks2 := 0) dX12_check_33 wd1563 YX12_laysBlank ⟨wd1565, wd88⟩ (mk_get (tl123 hT)) rfl rfl (s_X12_laysBlank_vn g hT I12 x0 (by omega) (by omega)) rfl rfl (Nat.le_of_ble_eq_true rfl) (by decide) rfl rfl 36 rfl (fun rv h1 q22 => ?_)
        obtain ⟨m23, n24, rfl, rfl, I25, K26, rm23⟩ := q22
        replace rm23 : (m23 123 40).toInt = nu m11 x0.toInt 0 ∧ ∀ p, p < (nu m11 x0.toInt 0).toNat → ∃ v, IsN (m11 128) (40 * x0.toInt.toNat) (m11 124 x0.toInt.toNat).toInt.toNat p v ∧ m23 149 p = m11 125 (40 * x0.toInt.toNat + v) := by have q_ := rm23; (try rw [z21] at q_); exact q_
        have K26c := K26
        have w27 : (m23 123 0).toInt = (m11 123 0).toInt := congrArg Int32.toInt (K26 123 0 rfl)
        have w28 : (m23 123 11).toInt = (m11 123 11).toInt := congrArg Int32.toInt (K26 123 11 rfl)
        have K26 := K13.trans (K26.sub (wl_sub (by decide)))
        show PV _ _ _ _ _ _ _ 36 [.ref 123, .int x0, .int x1, pv_U] [] _
        have k36 := rm23
        have k36c : (m23 123 40).toInt = nu m x0.toInt 0 := k36.1.trans k33n
        have k36r : ∀ p : Nat, (p : Int) < nu m x0.toInt 0 → ∃ w, IsN (m 128) (40 * x0.toInt.toNat) (m 124 x0.toInt.toNat).toInt.toNat p w ∧ m23 149 p = m 125 (40 * x0.toInt.toNat + w) := fun p hp => by obtain ⟨w, w1, w2⟩ := k36.2 p (by rw [k33n]; omega); rw [show m11 128 = m 128 from funext fun j => k33a _ j (by omega), k33a 124 _ (by omega)] at w1; exact ⟨w, w1, w2.trans (k33a _ _ (by omega))⟩
        have k36t : m23 129 = m 129 := funext fun j => K26 129 j rfl
        have k36g := nu_ge m x0.toInt 0
        refine pv_iconst (M := mX12_check) (v := 0) dX12_check_36 37 rfl (by decide) ?_
        refine pv_istore_n (M := mX12_check) 3 (lo2 := [.ref 123, .int x0, .int x1, .int 0]) dX12_check_37 38 rfl rfl (by decide) rfl rfl ?_
        have lp40 : ∀ (fuel39 : Nat) (y34 : Int32), (0 ≤ y34.toInt) → (y34.toInt ≤ 40) → (y34.toInt ≤ x1.toInt) → ((m23 123 11).toInt = 0) → ((m23 123 0).toInt = (m 123 0).toInt) → (y34.toInt ≤ (m23 123 40).toInt) → (∀ j : Nat, (j : Int) < y34.toInt → tnF (fun i => m 129 i &&& 255) (4 * j) 4 = m23 149 j) → ((40 - y34.toInt) : Int).toNat < fuel39 → PV none g mX12_check (sqI T BB (wl [(123, 123, some 11), (123, 123, some 40), (149, 149, none)]) r m (-2147483648) 2147483647 (fun m' v => CKK x0.toInt x1.toInt (m 123 0).toInt (m 123 11).toInt (m' 123 11).toInt ∧ CHKr ((0 ≤ x0.toInt ∧ x0.toInt < (m 123 0).toInt) ∧ 0 ≤ x1.toInt ∧ 4 * x1.toInt ≤ (m 123 11).toInt) m x0.toInt.toNat x1.toInt (nu m x0.toInt 0) v.toInt)) 2 0 0 38 [.ref 123, .int x0, .int x1, .int y34] [] (mk T m23 n24 r) := by
          intro fuel39
          induction fuel39 with
          | zero => intro y34 b42 b43 b44 b45 b46 b47 b48 z49; omega
          | succ fuel39 ih41 =>
            intro y34 b42 b43 b44 b45 b46 b47 b48 z49
            have kg := (show ∀ j : Nat, (j : Int) < y34.toInt → tnF (fun i => m 129 i &&& 255) (4 * j) 4 = m23 149 j by assumption)
            refine pv_iload_n (M := mX12_check) 3 dX12_check_38 39 rfl rfl rfl ?_
            refine pv_aload_n (M := mX12_check) 0 dX12_check_39 40 rfl rfl rfl ?_
            refine iv_get (M := mX12_check) (l1 := 0) (l2 := 40) dX12_check_40 FX12 40 wd1213 (by decide) (tl123 hT) rfl I25 rfl 43 rfl (fun v51 ev51 pv51 qv51 => ?_)
            have wv51 : v51.toInt = (m23 123 40).toInt := congrArg Int32.toInt ev51
            refine pv_icmp_ge (M := mX12_check) (tgt := 73) dX12_check_43 46 rfl (by decide) (fun c52 => ?_) (fun c52 => ?_)
            · have c52 := iv_le (X := v51.toInt) (Y := y34.toInt) c52 rfl rfl
              refine pv_aload_n (M := mX12_check) 0 dX12_check_73 74 rfl rfl rfl ?_
              refine iv_get (M := mX12_check) (l1 := 0) (l2 := 40) dX12_check_74 FX12 40 wd1213 (by decide) (tl123 hT) rfl I25 rfl 77 rfl (fun v53 ev53 pv53 qv53 => ?_)
              have wv53 : v53.toInt = (m23 123 40).toInt := congrArg Int32.toInt ev53
              refine pv_iload_n (M := mX12_check) 2 dX12_check_77 78 rfl rfl rfl ?_
              refine pv_icmp_ge (M := mX12_check) (tgt := 88) dX12_check_78 81 rfl (by decide) (fun c54 => ?_) (fun c54 => ?_)
              · have c54 := iv_le (X := x1.toInt) (Y := v53.toInt) c54 rfl rfl
                refine pv_iconst (M := mX12_check) (v := (-1)) dX12_check_88 89 rfl (by decide) ?_
                have z55 : ((-1) : Int32).toInt = (-1) := by decide
                exact pv_iret (M := mX12_check) dX12_check_89 rfl rfl ⟨_, _, _, rfl, rfl, I25, K26, by decide, by decide, ⟨(by (try dsimp only); first | exact Or.inr ⟨by omega, by first | omega | rfl⟩ | exact Or.inl ⟨by omega, by omega, by omega, by omega, by first | omega | decide⟩), Or.inr ⟨by omega, (fun j => m23 149 j), k36r, y34.toInt.toNat, by omega, by omega, (fun j hj => kg j (by omega)), Or.inr (Or.inl (by omega)), (by (try dsimp only); first | exact Or.inl ⟨by omega, by omega, by decide⟩ | exact Or.inr ⟨by omega, by omega⟩)⟩⟩⟩
              · have c54 := iv_nle (X := x1.toInt) (Y := v53.toInt) c54 rfl rfl
                refine pv_aload_n (M := mX12_check) 0 dX12_check_81 82 rfl rfl rfl ?_
                refine iv_get (M := mX12_check) (l1 := 0) (l2 := 40) dX12_check_82 FX12 40 wd1213 (by decide) (tl123 hT) rfl I25 rfl 85 rfl (fun v56 ev56 pv56 qv56 => ?_)
                have wv56 : v56.toInt = (m23 123 40).toInt := congrArg Int32.toInt ev56
                refine pv_goto (M := mX12_check) (tgt := 89) dX12_check_85 (by decide) ?_
                exact pv_iret (M := mX12_check) dX12_check_89 rfl rfl ⟨_, _, _, rfl, rfl, I25, K26, (iv_rng v56).1, (iv_rng v56).2, ⟨(by (try dsimp only); first | exact Or.inr ⟨by omega, by first | omega | rfl⟩ | exact Or.inl ⟨by omega, by omega, by omega, by omega, by first | omega | decide⟩), Or.inr ⟨by omega, (fun j => m23 149 j), k36r, y34.toInt.toNat, by omega, by omega, (fun j hj => kg j (by omega)), Or.inr (Or.inl (by omega)), (by (try dsimp only); first | exact Or.inl ⟨by omega, by omega, by decide⟩ | exact Or.inr ⟨by omega, by omega⟩)⟩⟩⟩
            · have c52 := iv_nle (X := v51.toInt) (Y := y34.toInt) c52 rfl rfl
              refine pv_iload_n (M := mX12_check) 3 dX12_check_46 47 rfl rfl rfl ?_
              refine pv_iload_n (M := mX12_check) 2 dX12_check_47 48 rfl rfl rfl ?_
              refine pv_icmp_eq (M := mX12_check) (tgt := 65) dX12_check_48 51 rfl (by decide) (fun c57 => ?_) (fun c57 => ?_)
              · have c57 := iv_eq (X := y34.toInt) (Y := x1.toInt) c57 rfl rfl
                have k65 : ((y34.toInt.toNat : Nat) : Int) = x1.toInt ∨ ((y34.toInt.toNat : Nat) : Int) = nu m x0.toInt 0 ∨ ¬ (tnF (fun i => m 129 i &&& 255) (4 * y34.toInt.toNat) 4 = m23 149 y34.toInt.toNat) := by first | exact Or.inl (by omega) | exact Or.inr (Or.inr (fun q => by have q2 := congrArg Int32.toInt ((k56.trans q).trans k62.symm); omega))
                refine pv_iload_n (M := mX12_check) 3 dX12_check_65 66 rfl rfl rfl ?_
                exact pv_iret (M := mX12_check) dX12_check_66 rfl rfl ⟨_, _, _, rfl, rfl, I25, K26, (iv_rng y34).1, (iv_rng y34).2, ⟨(by (try dsimp only); first | exact Or.inr ⟨by omega, by first | omega | rfl⟩ | exact Or.inl ⟨by omega, by omega, by omega, by omega, by first | omega | decide⟩), Or.inr ⟨by omega, (fun j => m23 149 j), k36r, y34.toInt.toNat, by omega, by omega, (fun j hj => kg j (by omega)), k65, (by (try dsimp only); first | exact Or.inl ⟨by omega, by omega, by decide⟩ | exact Or.inr ⟨by omega, by omega⟩)⟩⟩⟩
              · have c57 := iv_ne (X := y34.toInt) (Y := x1.toInt) c57 rfl rfl
                refine pv_aload_n (M := mX12_check) 0 dX12_check_51 52 rfl rfl rfl ?_
                refine pv_iload_n (M := mX12_check) 3 dX12_check_52 53 rfl rfl rfl ?_
                refine pv_callv (M := mX12_check) (as := [.int y34]) (st := []) (kc2 := 0) (ks2 := 0) dX12_check_53 wd1787 YX12_tapeNumber ⟨wd1789, wd122⟩ (mk_get (tl123 hT)) rfl rfl (s_X12_tapeNumber_va g hT I25 y34 (by omega) (by omega)) rfl rfl (Nat.le_of_ble_eq_true rfl) (by decide) rfl rfl 56 rfl (fun rv h1 q59 => ?_)
                obtain ⟨v60, rfl, rfl, pv60, qv60, rv60⟩ := q59
                replace rv60 : v60 = tnF (fun j => m23 129 j &&& 255) (4 * y34.toInt.toNat) 4 := rv60
                show PV _ _ _ _ _ _ _ 56 [.ref 123, .int x0, .int x1, .int y34] [.int v60] _
                have k56 := rv60
                rw [k36t] at k56
                refine pv_aload_n (M := mX12_check) 0 dX12_check_56 57 rfl rfl rfl ?_
                refine mv_get (M := mX12_check) (v := .ref 149) dX12_check_57 FX12 42 wd1215 (by decide) (tl123 hT) rfl rfl 60 rfl ?_
                refine pv_iload_n (M := mX12_check) 3 dX12_check_60 61 rfl rfl rfl ?_
                refine iv_iald (M := mX12_check) (X := y34.toInt) (l1 := 0) (l2 := 25) dX12_check_61 (tl149 hT) rfl (by omega) (by omega) I25 (fun _ => rfl) 62 rfl (fun v63 ev63 pv63 qv63 => ?_)
                have k62 : v63 = m23 149 y34.toInt.toNat := ev63
                refine pv_icmp_eq (M := mX12_check) (tgt := 67) dX12_check_62 65 rfl (by decide) (fun c65 => ?_) (fun c65 => ?_)
                · have c65 := iv_eq (X := v60.toInt) (Y := v63.toInt) c65 rfl rfl
                  refine iv_inc (M := mX12_check) (C := 1) dX12_check_67 70 rfl rfl (by decide) rfl rfl (by decide) (by omega) (by omega) (fun v66 ev66 => ?_)
                  show PV _ _ _ _ _ _ _ 70 [.ref 123, .int x0, .int x1, .int v66] [] _
                  refine pv_goto (M := mX12_check) (tgt := 38) dX12_check_70 (by decide) ?_
                  have kb : ∀ j : Nat, (j : Int) < v66.toInt → tnF (fun i => m 129 i &&& 255) (4 * j) 4 = m23 149 j := fun j hj => if z : j = (y34.toInt).toNat then (by rw [z, ← k56]; exact (i_eq (by omega)).trans k62) else kg j (by omega)
                  exact ih41 v66 (by first | omega | assumption | exact (iv_rng _).2 | exact (iv_rng _).1 | decide) (by first | omega | assumption | exact (iv_rng _).2 | exact (iv_rng _).1 | decide) (by first | omega | assumption | (show v66.toInt ≤ x1.toInt; omega) | decide) (by first | omega | assumption | (show (m23 123 11).toInt = 0; omega) | decide) (by first | omega | assumption | (show (m23 123 0).toInt = (m 123 0).toInt; omega) | decide) (by first | omega | assumption | (show v66.toInt ≤ (m23 123 40).toInt; omega) | decide) kb (by omega)
                · have c65 := iv_ne (X := v60.toInt) (Y := v63.toInt) c65 rfl rfl
                  have k65 : ((y34.toInt.toNat : Nat) : Int) = x1.toInt ∨ ((y34.toInt.toNat : Nat) : Int) = nu m x0.toInt 0 ∨ ¬ (tnF (fun i => m 129 i &&& 255) (4 * y34.toInt.toNat) 4 = m23 149 y34.toInt.toNat) := by first | exact Or.inl (by omega) | exact Or.inr (Or.inr (fun q => by have q2 := congrArg Int32.toInt ((k56.trans q).trans k62.symm); omega))
                  refine pv_iload_n (M := mX12_check) 3 dX12_check_65 66 rfl rfl rfl ?_
                  exact pv_iret (M := mX12_check) dX12_check_66 rfl rfl ⟨_, _, _, rfl, rfl, I25, K26, (iv_rng y34).1, (iv_rng y34).2, ⟨(by (try dsimp only); first | exact Or.inr ⟨by omega, by first | omega | rfl⟩ | exact Or.inl ⟨by omega, by omega, by omega, by omega, by first | omega | decide⟩), Or.inr ⟨by omega, (fun j => m23 149 j), k36r, y34.toInt.toNat, by omega, by omega, (fun j hj => kg j (by omega)), k65, (by (try dsimp only); first | exact Or.inl ⟨by omega, by omega, by decide⟩ | exact Or.inr ⟨by omega, by omega⟩)⟩⟩⟩
        have z69 : (0 : Int32).toInt = 0 := by decide
        exact lp40 (((40 - 0) : Int).toNat + 1) 0 (by first | omega | assumption | exact (iv_rng _).2 | exact (iv_rng _).1 | decide) (by first | omega | assumption | exact (iv_rng _).2 | exact (iv_rng _).1 | decide) (by first | omega | assumption | (show 0 ≤ x1.toInt; omega) | decide) (by first | omega | assumption | (show (m23 123 11).toInt = 0; omega) | decide) (by first | omega | assumption | (show (m23 123 0).toInt = (m 123 0).toInt; omega) | decide) (by first | omega | assumption | (show 0 ≤ (m23 123 40).toInt; omega) | decide) (fun j hj => by rw [Int32.toInt_zero] at hj; omega) (by omega)
      · have c10 := iv_nle (X := x1.toInt) (Y := v9.toInt) c10 rfl rfl
        refine pv_bipush (M := mX12_check) (v := (-2)) dX12_check_22 24 rfl (by decide) ?_
        have z70 : ((-2) : Int32).toInt = (-2) := by decide
        exact pv_iret (M := mX12_check) dX12_check_24 rfl rfl ⟨_, _, _, rfl, rfl, I, Kp, by decide, by decide, ⟨(by (try dsimp only); first | exact Or.inr ⟨by omega, by first | omega | rfl⟩ | exact Or.inl ⟨by omega, by omega, by omega, by omega, by first | omega | decide⟩), Or.inl ⟨by omega, by decide⟩⟩⟩
