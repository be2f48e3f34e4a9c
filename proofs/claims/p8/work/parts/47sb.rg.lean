set_option maxHeartbeats 2000000 in
set_option maxRecDepth 20000 in
theorem s_X12_numberAt_vz (g : pv_G) {T : List mv_T} {m : Nat → Nat → Int32} {n : Nat → Nat → Int64} {r : Nat → Value} (hT : TX T) (I : IV BB m) (x0 : Int32) (hl0 : 0 ≤ x0.toInt) (hh0 : x0.toInt ≤ 7) (x1 : Int32) (hl1 : 0 ≤ x1.toInt) (hh1 : x1.toInt ≤ 39) (hp0 : x1.toInt < nu m x0.toInt 0) : PM g mX12_numberAt yX12_numberAt (sqP (mk T m n r) 0 39 (fun v => (v.toInt < (m 124 x0.toInt.toNat).toInt ∧ (m 128 (40 * x0.toInt + v.toInt).toNat).toInt = 0) ∧ IsN (m 128) (40 * x0.toInt.toNat) (m 124 x0.toInt.toNat).toInt.toNat x1.toInt.toNat v.toInt.toNat)) 1 0 0 [.ref 123, .int x0, .int x1] (mk T m n r) := by
  have Kp : fr (wl []) m m := fr.rf
  refine PM.of 2 (lo := [.ref 123, .int x0, .int x1, pv_U, pv_U]) rfl (by decide) rfl rfl (Nat.le_of_ble_eq_true rfl) ?_
  refine pv_iload_n (M := mX12_numberAt) 2 dX12_numberAt_0 1 rfl rfl rfl ?_
  refine pv_istore_n (M := mX12_numberAt) 3 (lo2 := [.ref 123, .int x0, .int x1, .int x1, pv_U]) dX12_numberAt_1 2 rfl rfl (by decide) rfl rfl ?_
  refine pv_iconst (M := mX12_numberAt) (v := 0) dX12_numberAt_2 3 rfl (by decide) ?_
  refine pv_istore (M := mX12_numberAt) (lo2 := [.ref 123, .int x0, .int x1, .int x1, .int 0]) dX12_numberAt_3 5 rfl (by decide) rfl rfl ?_
  have lp8 : ∀ (fuel7 : Nat) (y1 : Int32) (y2 : Int32), (0 ≤ y1.toInt) → (y1.toInt ≤ 39) → (0 ≤ y2.toInt) → (y2.toInt ≤ 40) → (y1.toInt < nu m x0.toInt y2.toInt) → (nu m x0.toInt y2.toInt = nu m x0.toInt 0 - (x1.toInt - y1.toInt)) → ((40 - y2.toInt) : Int).toNat < fuel7 → PV none g mX12_numberAt (sqP (mk T m n r) 0 39 (fun v => (v.toInt < (m 124 x0.toInt.toNat).toInt ∧ (m 128 (40 * x0.toInt + v.toInt).toNat).toInt = 0) ∧ IsN (m 128) (40 * x0.toInt.toNat) (m 124 x0.toInt.toNat).toInt.toNat x1.toInt.toNat v.toInt.toNat)) 1 0 0 5 [.ref 123, .int x0, .int x1, .int y1, .int y2] [] (mk T m n r) := by
    intro fuel7
    induction fuel7 with
    | zero => intro y1 y2 b10 b11 b12 b13 b14 b15 z16; omega
    | succ fuel7 ih9 =>
      intro y1 y2 b10 b11 b12 b13 b14 b15 z16
      have k5 := nu_pos (m := m) (b := x0.toInt) (w := y2.toInt) (by omega)
      have k5b := (I 124 x0.toInt.toNat).2
      have k5c : (m 124 x0.toInt.toNat).toInt ≤ 40 := k5b
      refine pv_aload_n (M := mX12_numberAt) 0 dX12_numberAt_5 6 rfl rfl rfl ?_
      refine mv_get (M := mX12_numberAt) (v := .ref 128) dX12_numberAt_6 FX12 9 wd1182 (by decide) (tl123 hT) rfl rfl 9 rfl ?_
      refine pv_bipush (M := mX12_numberAt) (v := 40) dX12_numberAt_9 11 rfl (by decide) ?_
      refine pv_iload_n (M := mX12_numberAt) 1 dX12_numberAt_11 12 rfl rfl rfl ?_
      refine iv_imul (M := mX12_numberAt) (X := 40) (Y := x0.toInt) dX12_numberAt_12 13 rfl (by decide) rfl (by omega) (by omega) (fun v20 ev20 => ?_)
      refine pv_iload (M := mX12_numberAt) dX12_numberAt_13 15 rfl rfl ?_
      refine iv_iadd (M := mX12_numberAt) (X := v20.toInt) (Y := y2.toInt) dX12_numberAt_15 16 rfl rfl rfl (by omega) (by omega) (fun v21 ev21 => ?_)
      refine iv_zald (M := mX12_numberAt) (X := v21.toInt) (l1 := 0) (l2 := 1) dX12_numberAt_16 (tl128 hT) rfl (by omega) (by omega) I (fun _ => rfl) 17 rfl (fun v22 ev22 pv22 qv22 => ?_)
      have k17 : v22.toInt = (m 128 (40 * x0.toInt + y2.toInt).toNat).toInt := (congrArg Int32.toInt ev22).trans (congrArg (fun z => (m 128 z).toInt) (by omega))
      refine pv_if_ne (M := mX12_numberAt) (tgt := 24) dX12_numberAt_17 20 rfl (by decide) (fun c24 => ?_) (fun c24 => ?_)
      · have c24 := iv_ne (X := v22.toInt) (Y := 0) c24 rfl (by decide)
        refine pv_aload_n (M := mX12_numberAt) 0 dX12_numberAt_24 25 rfl rfl rfl ?_
        refine mv_get (M := mX12_numberAt) (v := .ref 128) dX12_numberAt_25 FX12 9 wd1182 (by decide) (tl123 hT) rfl rfl 28 rfl ?_
        refine pv_bipush (M := mX12_numberAt) (v := 40) dX12_numberAt_28 30 rfl (by decide) ?_
        refine pv_iload_n (M := mX12_numberAt) 1 dX12_numberAt_30 31 rfl rfl rfl ?_
        refine iv_imul (M := mX12_numberAt) (X := 40) (Y := x0.toInt) dX12_numberAt_31 32 rfl (by decide) rfl (by omega) (by omega) (fun v25 ev25 => ?_)
        refine pv_iload (M := mX12_numberAt) dX12_numberAt_32 34 rfl rfl ?_
        refine iv_iadd (M := mX12_numberAt) (X := v25.toInt) (Y := y2.toInt) dX12_numberAt_34 35 rfl rfl rfl (by omega) (by omega) (fun v26 ev26 => ?_)
        refine iv_zald (M := mX12_numberAt) (X := v26.toInt) (l1 := 0) (l2 := 1) dX12_numberAt_35 (tl128 hT) rfl (by omega) (by omega) I (fun _ => rfl) 36 rfl (fun v27 ev27 pv27 qv27 => ?_)
        have k36 : v27.toInt = (m 128 (40 * x0.toInt + y2.toInt).toNat).toInt := (congrArg Int32.toInt ev27).trans (congrArg (fun z => (m 128 z).toInt) (by omega))
        refine pv_if_eq (M := mX12_numberAt) (tgt := 43) dX12_numberAt_36 39 rfl (by decide) (fun c29 => ?_) (fun c29 => ?_)
        · have c29 := iv_eq (X := v27.toInt) (Y := 0) c29 rfl (by decide)
          have k43 := nu_free (m := m) (b := x0.toInt) (w := y2.toInt) (by omega) (by omega) (by omega) (by omega)
          refine pv_iload_n (M := mX12_numberAt) 3 dX12_numberAt_43 44 rfl rfl rfl ?_
          refine pv_iconst (M := mX12_numberAt) (v := 1) dX12_numberAt_44 45 rfl (by decide) ?_
          refine iv_isub (M := mX12_numberAt) (X := y1.toInt) (Y := 1) dX12_numberAt_45 46 rfl rfl (by decide) (by omega) (by omega) (fun v31 ev31 => ?_)
          refine pv_istore_n (M := mX12_numberAt) 3 (lo2 := [.ref 123, .int x0, .int x1, .int v31, .int y2]) dX12_numberAt_46 47 rfl rfl (by decide) rfl rfl ?_
          refine pv_iload (M := mX12_numberAt) dX12_numberAt_47 49 rfl rfl ?_
          refine pv_iconst (M := mX12_numberAt) (v := 1) dX12_numberAt_49 50 rfl (by decide) ?_
          refine iv_iadd (M := mX12_numberAt) (X := y2.toInt) (Y := 1) dX12_numberAt_50 51 rfl rfl (by decide) (by omega) (by omega) (fun v32 ev32 => ?_)
          refine pv_istore (M := mX12_numberAt) (lo2 := [.ref 123, .int x0, .int x1, .int v31, .int v32]) dX12_numberAt_51 53 rfl (by decide) rfl rfl ?_
          refine pv_goto (M := mX12_numberAt) (tgt := 5) dX12_numberAt_53 (by decide) ?_
          have kb : nu m x0.toInt v32.toInt = nu m x0.toInt (y2.toInt + 1) := congrArg (nu m x0.toInt) (by omega)
          exact ih9 v31 v32 (by first | omega | assumption | exact (iv_rng _).2 | exact (iv_rng _).1 | decide) (by first | omega | assumption | exact (iv_rng _).2 | exact (iv_rng _).1 | decide) (by first | omega | assumption | exact (iv_rng _).2 | exact (iv_rng _).1 | decide) (by first | omega | assumption | exact (iv_rng _).2 | exact (iv_rng _).1 | decide) (by first | omega | assumption | (show v31.toInt < nu m x0.toInt v32.toInt; omega) | decide) (by first | omega | assumption | (show nu m x0.toInt v32.toInt = nu m x0.toInt 0 - (x1.toInt - v31.toInt); omega) | decide) (by omega)
        · have c29 := iv_ne (X := v27.toInt) (Y := 0) c29 rfl (by decide)
          have k39 := nu_str (m := m) (b := x0.toInt) (w := y2.toInt) (by omega) (by omega) (by omega) (by omega)
          refine pv_iload_n (M := mX12_numberAt) 3 dX12_numberAt_39 40 rfl rfl rfl ?_
          refine pv_goto (M := mX12_numberAt) (tgt := 46) dX12_numberAt_40 (by decide) ?_
          refine pv_istore_n (M := mX12_numberAt) 3 (lo2 := [.ref 123, .int x0, .int x1, .int y1, .int y2]) dX12_numberAt_46 47 rfl rfl (by decide) rfl rfl ?_
          refine pv_iload (M := mX12_numberAt) dX12_numberAt_47 49 rfl rfl ?_
          refine pv_iconst (M := mX12_numberAt) (v := 1) dX12_numberAt_49 50 rfl (by decide) ?_
          refine iv_iadd (M := mX12_numberAt) (X := y2.toInt) (Y := 1) dX12_numberAt_50 51 rfl rfl (by decide) (by omega) (by omega) (fun v35 ev35 => ?_)
          refine pv_istore (M := mX12_numberAt) (lo2 := [.ref 123, .int x0, .int x1, .int y1, .int v35]) dX12_numberAt_51 53 rfl (by decide) rfl rfl ?_
          refine pv_goto (M := mX12_numberAt) (tgt := 5) dX12_numberAt_53 (by decide) ?_
          have kb : nu m x0.toInt v35.toInt = nu m x0.toInt (y2.toInt + 1) := congrArg (nu m x0.toInt) (by omega)
          exact ih9 y1 v35 (by first | omega | assumption | exact (iv_rng _).2 | exact (iv_rng _).1 | decide) (by first | omega | assumption | exact (iv_rng _).2 | exact (iv_rng _).1 | decide) (by first | omega | assumption | exact (iv_rng _).2 | exact (iv_rng _).1 | decide) (by first | omega | assumption | exact (iv_rng _).2 | exact (iv_rng _).1 | decide) (by first | omega | assumption | (show y1.toInt < nu m x0.toInt v35.toInt; omega) | decide) (by first | omega | assumption | (show nu m x0.toInt v35.toInt = nu m x0.toInt 0 - (x1.toInt - y1.toInt); omega) | decide) (by omega)
      · have c24 := iv_eq (X := v22.toInt) (Y := 0) c24 rfl (by decide)
        refine pv_iload_n (M := mX12_numberAt) 3 dX12_numberAt_20 21 rfl rfl rfl ?_
        refine pv_if_le (M := mX12_numberAt) (tgt := 56) dX12_numberAt_21 24 rfl (by decide) (fun c37 => ?_) (fun c37 => ?_)
        · have c37 := iv_le (X := y1.toInt) (Y := 0) c37 rfl (by decide)
          refine pv_iload (M := mX12_numberAt) dX12_numberAt_56 58 rfl rfl ?_
          exact pv_iret (M := mX12_numberAt) dX12_numberAt_58 rfl rfl ⟨_, rfl, rfl, by omega, by omega, (by have k1 : y2.toInt < (m 124 x0.toInt.toNat).toInt ∧ (m 128 (40 * x0.toInt + y2.toInt).toNat).toInt = 0 := (by constructor <;> omega); exact ⟨k1, nu_IsN (by omega) (by omega) (i_eq (by rw [Int32.toInt_zero, show 40 * x0.toInt.toNat + y2.toInt.toNat = (40 * x0.toInt + y2.toInt).toNat by omega]; exact k1.2)) (by omega) (by omega)⟩)⟩
        · have c37 := iv_nle (X := y1.toInt) (Y := 0) c37 rfl (by decide)
          refine pv_aload_n (M := mX12_numberAt) 0 dX12_numberAt_24 25 rfl rfl rfl ?_
          refine mv_get (M := mX12_numberAt) (v := .ref 128) dX12_numberAt_25 FX12 9 wd1182 (by decide) (tl123 hT) rfl rfl 28 rfl ?_
          refine pv_bipush (M := mX12_numberAt) (v := 40) dX12_numberAt_28 30 rfl (by decide) ?_
          refine pv_iload_n (M := mX12_numberAt) 1 dX12_numberAt_30 31 rfl rfl rfl ?_
          refine iv_imul (M := mX12_numberAt) (X := 40) (Y := x0.toInt) dX12_numberAt_31 32 rfl (by decide) rfl (by omega) (by omega) (fun v38 ev38 => ?_)
          refine pv_iload (M := mX12_numberAt) dX12_numberAt_32 34 rfl rfl ?_
          refine iv_iadd (M := mX12_numberAt) (X := v38.toInt) (Y := y2.toInt) dX12_numberAt_34 35 rfl rfl rfl (by omega) (by omega) (fun v39 ev39 => ?_)
          refine iv_zald (M := mX12_numberAt) (X := v39.toInt) (l1 := 0) (l2 := 1) dX12_numberAt_35 (tl128 hT) rfl (by omega) (by omega) I (fun _ => rfl) 36 rfl (fun v40 ev40 pv40 qv40 => ?_)
          have k36 : v40.toInt = (m 128 (40 * x0.toInt + y2.toInt).toNat).toInt := (congrArg Int32.toInt ev40).trans (congrArg (fun z => (m 128 z).toInt) (by omega))
          refine pv_if_eq (M := mX12_numberAt) (tgt := 43) dX12_numberAt_36 39 rfl (by decide) (fun c42 => ?_) (fun c42 => ?_)
          · have c42 := iv_eq (X := v40.toInt) (Y := 0) c42 rfl (by decide)
            have k43 := nu_free (m := m) (b := x0.toInt) (w := y2.toInt) (by omega) (by omega) (by omega) (by omega)
            refine pv_iload_n (M := mX12_numberAt) 3 dX12_numberAt_43 44 rfl rfl rfl ?_
            refine pv_iconst (M := mX12_numberAt) (v := 1) dX12_numberAt_44 45 rfl (by decide) ?_
            refine iv_isub (M := mX12_numberAt) (X := y1.toInt) (Y := 1) dX12_numberAt_45 46 rfl rfl (by decide) (by omega) (by omega) (fun v44 ev44 => ?_)
            refine pv_istore_n (M := mX12_numberAt) 3 (lo2 := [.ref 123, .int x0, .int x1, .int v44, .int y2]) dX12_numberAt_46 47 rfl rfl (by decide) rfl rfl ?_
            refine pv_iload (M := mX12_numberAt) dX12_numberAt_47 49 rfl rfl ?_
            refine pv_iconst (M := mX12_numberAt) (v := 1) dX12_numberAt_49 50 rfl (by decide) ?_
            refine iv_iadd (M := mX12_numberAt) (X := y2.toInt) (Y := 1) dX12_numberAt_50 51 rfl rfl (by decide) (by omega) (by omega) (fun v45 ev45 => ?_)
            refine pv_istore (M := mX12_numberAt) (lo2 := [.ref 123, .int x0, .int x1, .int v44, .int v45]) dX12_numberAt_51 53 rfl (by decide) rfl rfl ?_
            refine pv_goto (M := mX12_numberAt) (tgt := 5) dX12_numberAt_53 (by decide) ?_
            have kb : nu m x0.toInt v45.toInt = nu m x0.toInt (y2.toInt + 1) := congrArg (nu m x0.toInt) (by omega)
            exact ih9 v44 v45 (by first | omega | assumption | exact (iv_rng _).2 | exact (iv_rng _).1 | decide) (by first | omega | assumption | exact (iv_rng _).2 | exact (iv_rng _).1 | decide) (by first | omega | assumption | exact (iv_rng _).2 | exact (iv_rng _).1 | decide) (by first | omega | assumption | exact (iv_rng _).2 | exact (iv_rng _).1 | decide) (by first | omega | assumption | (show v44.toInt < nu m x0.toInt v45.toInt; omega) | decide) (by first | omega | assumption | (show nu m x0.toInt v45.toInt = nu m x0.toInt 0 - (x1.toInt - v44.toInt); omega) | decide) (by omega)
          · have c42 := iv_ne (X := v40.toInt) (Y := 0) c42 rfl (by decide)
            have k39 := nu_str (m := m) (b := x0.toInt) (w := y2.toInt) (by omega) (by omega) (by omega) (by omega)
            refine pv_iload_n (M := mX12_numberAt) 3 dX12_numberAt_39 40 rfl rfl rfl ?_
            refine pv_goto (M := mX12_numberAt) (tgt := 46) dX12_numberAt_40 (by decide) ?_
            refine pv_istore_n (M := mX12_numberAt) 3 (lo2 := [.ref 123, .int x0, .int x1, .int y1, .int y2]) dX12_numberAt_46 47 rfl rfl (by decide) rfl rfl ?_
            refine pv_iload (M := mX12_numberAt) dX12_numberAt_47 49 rfl rfl ?_
            refine pv_iconst (M := mX12_numberAt) (v := 1) dX12_numberAt_49 50 rfl (by decide) ?_
            refine iv_iadd (M := mX12_numberAt) (X := y2.toInt) (Y := 1) dX12_numberAt_50 51 rfl rfl (by decide) (by omega) (by omega) (fun v48 ev48 => ?_)
            refine pv_istore (M := mX12_numberAt) (lo2 := [.ref 123, .int x0, .int x1, .int y1, .int v48]) dX12_numberAt_51 53 rfl (by decide) rfl rfl ?_
            refine pv_goto (M := mX12_numberAt) (tgt := 5) dX12_numberAt_53 (by decide) ?_
            have kb : nu m x0.toInt v48.toInt = nu m x0.toInt (y2.toInt + 1) := congrArg (nu m x0.toInt) (by omega)
            exact ih9 y1 v48 (by first | omega | assumption | exact (iv_rng _).2 | exact (iv_rng _).1 | decide) (by first | omega | assumption | exact (iv_rng _).2 | exact (iv_rng _).1 | decide) (by first | omega | assumption | exact (iv_rng _).2 | exact (iv_rng _).1 | decide) (by first | omega | assumption | exact (iv_rng _).2 | exact (iv_rng _).1 | decide) (by first | omega | assumption | (show y1.toInt < nu m x0.toInt v48.toInt; omega) | decide) (by first | omega | assumption | (show nu m x0.toInt v48.toInt = nu m x0.toInt 0 - (x1.toInt - y1.toInt); omega) | decide) (by omega)
  have z50 : (0 : Int32).toInt = 0 := by decide
  exact lp8 (((40 - 0) : Int).toNat + 1) x1 0 (by first | omega | assumption | exact (iv_rng _).2 | exact (iv_rng _).1 | decide) (by first | omega | assumption | exact (iv_rng _).2 | exact (iv_rng _).1 | decide) (by first | omega | assumption | exact (iv_rng _).2 | exact (iv_rng _).1 | decide) (by first | omega | assumption | exact (iv_rng _).2 | exact (iv_rng _).1 | decide) (by first | omega | assumption | (show x1.toInt < nu m x0.toInt 0; omega) | decide) (by first | omega | assumption | (show nu m x0.toInt 0 = nu m x0.toInt 0 - (x1.toInt - x1.toInt); omega) | decide) (by omega)

set_option maxHeartbeats 2000000 in
set_option maxRecDepth 20000 in
theorem s_X12_howOften_vz (g : pv_G) {T : List mv_T} {m : Nat → Nat → Int32} {n : Nat → Nat → Int64} {r : Nat → Value} (hT : TX T) (I : IV BB m) (x0 : Int32) (hl0 : 0 ≤ x0.toInt) (hh0 : x0.toInt ≤ 7) (x1 : Int32) : PM g mX12_howOften yX12_howOften (sqP (mk T m n r) 0 40 (fun v => v.toInt = hof (m 128) (m 125) (40 * x0.toInt.toNat) (40 * x0.toInt.toNat) x1.toInt (m 124 x0.toInt.toNat).toInt.toNat)) 1 0 0 [.ref 123, .int x0, .int x1] (mk T m n r) := by
  have Kp : fr (wl []) m m := fr.rf
  refine PM.of 2 (lo := [.ref 123, .int x0, .int x1, pv_U, pv_U]) rfl (by decide) rfl rfl (Nat.le_of_ble_eq_true rfl) ?_
  refine pv_iconst (M := mX12_howOften) (v := 0) dX12_howOften_0 1 rfl (by decide) ?_
  refine pv_istore_n (M := mX12_howOften) 3 (lo2 := [.ref 123, .int x0, .int x1, .int 0, pv_U]) dX12_howOften_1 2 rfl rfl (by decide) rfl rfl ?_
  refine pv_iconst (M := mX12_howOften) (v := 0) dX12_howOften_2 3 rfl (by decide) ?_
  refine pv_istore (M := mX12_howOften) (lo2 := [.ref 123, .int x0, .int x1, .int 0, .int 0]) dX12_howOften_3 5 rfl (by decide) rfl rfl ?_
  have lp8 : ∀ (fuel7 : Nat) (y1 : Int32) (y2 : Int32), (0 ≤ y1.toInt) → (y1.toInt ≤ 40) → (0 ≤ y2.toInt) → (y2.toInt ≤ 40) → (y1.toInt ≤ y2.toInt) → (y2.toInt ≤ (m 124 x0.toInt.toNat).toInt) → (y1.toInt = hof (m 128) (m 125) (40 * x0.toInt.toNat) (40 * x0.toInt.toNat) x1.toInt y2.toInt.toNat) → ((40 - y2.toInt) : Int).toNat < fuel7 → PV none g mX12_howOften (sqP (mk T m n r) 0 40 (fun v => v.toInt = hof (m 128) (m 125) (40 * x0.toInt.toNat) (40 * x0.toInt.toNat) x1.toInt (m 124 x0.toInt.toNat).toInt.toNat)) 1 0 0 5 [.ref 123, .int x0, .int x1, .int y1, .int y2] [] (mk T m n r) := by
    intro fuel7
    induction fuel7 with
    | zero => intro y1 y2 b10 b11 b12 b13 b14 b15 b16 z17; omega
    | succ fuel7 ih9 =>
      intro y1 y2 b10 b11 b12 b13 b14 b15 b16 z17
      have kgh := (show y1.toInt = hof (m 128) (m 125) (40 * x0.toInt.toNat) (40 * x0.toInt.toNat) x1.toInt y2.toInt.toNat by assumption)
      refine pv_iload (M := mX12_howOften) dX12_howOften_5 7 rfl rfl ?_
      refine pv_aload_n (M := mX12_howOften) 0 dX12_howOften_7 8 rfl rfl rfl ?_
      refine mv_get (M := mX12_howOften) (v := .ref 124) dX12_howOften_8 FX12 5 wd1178 (by decide) (tl123 hT) rfl rfl 11 rfl ?_
      refine pv_iload_n (M := mX12_howOften) 1 dX12_howOften_11 12 rfl rfl rfl ?_
      refine iv_iald (M := mX12_howOften) (X := x0.toInt) (l1 := 0) (l2 := 40) dX12_howOften_12 (tl124 hT) rfl (by omega) (by omega) I (fun _ => rfl) 13 rfl (fun v19 ev19 pv19 qv19 => ?_)
      have k13 : v19.toInt = (m 124 x0.toInt.toNat).toInt := congrArg Int32.toInt ev19
      refine pv_icmp_ge (M := mX12_howOften) (tgt := 61) dX12_howOften_13 16 rfl (by decide) (fun c21 => ?_) (fun c21 => ?_)
      · have c21 := iv_le (X := v19.toInt) (Y := y2.toInt) c21 rfl rfl
        refine pv_iload_n (M := mX12_howOften) 3 dX12_howOften_61 62 rfl rfl rfl ?_
        exact pv_iret (M := mX12_howOften) dX12_howOften_62 rfl rfl ⟨_, rfl, rfl, by omega, by omega, (by show y1.toInt = _; rw [kgh]; congr 2; omega)⟩
      · have c21 := iv_nle (X := v19.toInt) (Y := y2.toInt) c21 rfl rfl
        refine pv_iload_n (M := mX12_howOften) 3 dX12_howOften_16 17 rfl rfl rfl ?_
        refine pv_aload_n (M := mX12_howOften) 0 dX12_howOften_17 18 rfl rfl rfl ?_
        refine mv_get (M := mX12_howOften) (v := .ref 128) dX12_howOften_18 FX12 9 wd1182 (by decide) (tl123 hT) rfl rfl 21 rfl ?_
        refine pv_bipush (M := mX12_howOften) (v := 40) dX12_howOften_21 23 rfl (by decide) ?_
        refine pv_iload_n (M := mX12_howOften) 1 dX12_howOften_23 24 rfl rfl rfl ?_
        refine iv_imul (M := mX12_howOften) (X := 40) (Y := x0.toInt) dX12_howOften_24 25 rfl (by decide) rfl (by omega) (by omega) (fun v22 ev22 => ?_)
        refine pv_iload (M := mX12_howOften) dX12_howOften_25 27 rfl rfl ?_
        refine iv_iadd (M := mX12_howOften) (X := v22.toInt) (Y := y2.toInt) dX12_howOften_27 28 rfl rfl rfl (by omega) (by omega) (fun v23 ev23 => ?_)
        refine iv_zald (M := mX12_howOften) (X := v23.toInt) (l1 := 0) (l2 := 1) dX12_howOften_28 (tl128 hT) rfl (by omega) (by omega) I (fun _ => rfl) 29 rfl (fun v24 ev24 pv24 qv24 => ?_)
        have k29 : v24 = m 128 (40 * x0.toInt.toNat + y2.toInt.toNat) := ev24.trans (congrArg (fun z => m 128 z) (by omega))
        refine pv_if_ne (M := mX12_howOften) (tgt := 52) dX12_howOften_29 32 rfl (by decide) (fun c26 => ?_) (fun c26 => ?_)
        · have c26 := iv_ne (X := v24.toInt) (Y := 0) c26 rfl (by decide)
          refine pv_iconst (M := mX12_howOften) (v := 0) dX12_howOften_52 53 rfl (by decide) ?_
          refine iv_iadd (M := mX12_howOften) (X := y1.toInt) (Y := 0) dX12_howOften_53 54 rfl rfl (by decide) (by omega) (by omega) (fun v27 ev27 => ?_)
          refine pv_istore_n (M := mX12_howOften) 3 (lo2 := [.ref 123, .int x0, .int x1, .int v27, .int y2]) dX12_howOften_54 55 rfl rfl (by decide) rfl rfl ?_
          refine iv_inc (M := mX12_howOften) (C := 1) dX12_howOften_55 58 rfl rfl (by decide) rfl rfl (by decide) (by omega) (by omega) (fun v28 ev28 => ?_)
          show PV _ _ _ _ _ _ _ 58 [.ref 123, .int x0, .int x1, .int v27, .int v28] [] _
          refine pv_goto (M := mX12_howOften) (tgt := 5) dX12_howOften_58 (by decide) ?_
          have kbh : v27.toInt = hof (m 128) (m 125) (40 * x0.toInt.toNat) (40 * x0.toInt.toNat) x1.toInt v28.toInt.toNat := by rw [show v28.toInt.toNat = (y2.toInt).toNat + 1 by omega]; first | (rw [hof_y (k29.symm.trans (i_eq (by rw [Int32.toInt_zero]; omega))) (by rw [← k44]; omega)]; omega) | (rw [hof_n (Or.inl (fun q => by have w := congrArg Int32.toInt (k29.trans q); rw [Int32.toInt_zero] at w; omega))]; omega) | (rw [hof_n (Or.inr (by rw [← k44]; omega))]; omega)
          exact ih9 v27 v28 (by first | omega | assumption | exact (iv_rng _).2 | exact (iv_rng _).1 | decide) (by first | omega | assumption | exact (iv_rng _).2 | exact (iv_rng _).1 | decide) (by first | omega | assumption | exact (iv_rng _).2 | exact (iv_rng _).1 | decide) (by first | omega | assumption | exact (iv_rng _).2 | exact (iv_rng _).1 | decide) (by first | omega | assumption | (show v27.toInt ≤ v28.toInt; omega) | decide) (by first | omega | assumption | (show v28.toInt ≤ (m 124 x0.toInt.toNat).toInt; omega) | decide) kbh (by omega)
        · have c26 := iv_eq (X := v24.toInt) (Y := 0) c26 rfl (by decide)
          refine pv_aload_n (M := mX12_howOften) 0 dX12_howOften_32 33 rfl rfl rfl ?_
          refine mv_get (M := mX12_howOften) (v := .ref 125) dX12_howOften_33 FX12 6 wd1179 (by decide) (tl123 hT) rfl rfl 36 rfl ?_
          refine pv_bipush (M := mX12_howOften) (v := 40) dX12_howOften_36 38 rfl (by decide) ?_
          refine pv_iload_n (M := mX12_howOften) 1 dX12_howOften_38 39 rfl rfl rfl ?_
          refine iv_imul (M := mX12_howOften) (X := 40) (Y := x0.toInt) dX12_howOften_39 40 rfl (by decide) rfl (by omega) (by omega) (fun v30 ev30 => ?_)
          refine pv_iload (M := mX12_howOften) dX12_howOften_40 42 rfl rfl ?_
          refine iv_iadd (M := mX12_howOften) (X := v30.toInt) (Y := y2.toInt) dX12_howOften_42 43 rfl rfl rfl (by omega) (by omega) (fun v31 ev31 => ?_)
          refine iv_iald (M := mX12_howOften) (X := v31.toInt) (l1 := 0) (l2 := 25) dX12_howOften_43 (tl125 hT) rfl (by omega) (by omega) I (fun _ => rfl) 44 rfl (fun v32 ev32 pv32 qv32 => ?_)
          have k44 : v32 = m 125 (40 * x0.toInt.toNat + y2.toInt.toNat) := ev32.trans (congrArg (fun z => m 125 z) (by omega))
          refine pv_iload_n (M := mX12_howOften) 2 dX12_howOften_44 45 rfl rfl rfl ?_
          refine pv_icmp_ne (M := mX12_howOften) (tgt := 52) dX12_howOften_45 48 rfl (by decide) (fun c34 => ?_) (fun c34 => ?_)
          · have c34 := iv_ne (X := v32.toInt) (Y := x1.toInt) c34 rfl rfl
            refine pv_iconst (M := mX12_howOften) (v := 0) dX12_howOften_52 53 rfl (by decide) ?_
            refine iv_iadd (M := mX12_howOften) (X := y1.toInt) (Y := 0) dX12_howOften_53 54 rfl rfl (by decide) (by omega) (by omega) (fun v35 ev35 => ?_)
            refine pv_istore_n (M := mX12_howOften) 3 (lo2 := [.ref 123, .int x0, .int x1, .int v35, .int y2]) dX12_howOften_54 55 rfl rfl (by decide) rfl rfl ?_
            refine iv_inc (M := mX12_howOften) (C := 1) dX12_howOften_55 58 rfl rfl (by decide) rfl rfl (by decide) (by omega) (by omega) (fun v36 ev36 => ?_)
            show PV _ _ _ _ _ _ _ 58 [.ref 123, .int x0, .int x1, .int v35, .int v36] [] _
            refine pv_goto (M := mX12_howOften) (tgt := 5) dX12_howOften_58 (by decide) ?_
            have kbh : v35.toInt = hof (m 128) (m 125) (40 * x0.toInt.toNat) (40 * x0.toInt.toNat) x1.toInt v36.toInt.toNat := by rw [show v36.toInt.toNat = (y2.toInt).toNat + 1 by omega]; first | (rw [hof_y (k29.symm.trans (i_eq (by rw [Int32.toInt_zero]; omega))) (by rw [← k44]; omega)]; omega) | (rw [hof_n (Or.inl (fun q => by have w := congrArg Int32.toInt (k29.trans q); rw [Int32.toInt_zero] at w; omega))]; omega) | (rw [hof_n (Or.inr (by rw [← k44]; omega))]; omega)
            exact ih9 v35 v36 (by first | omega | assumption | exact (iv_rng _).2 | exact (iv_rng _).1 | decide) (by first | omega | assumption | exact (iv_rng _).2 | exact (iv_rng _).1 | decide) (by first | omega | assumption | exact (iv_rng _).2 | exact (iv_rng _).1 | decide) (by first | omega | assumption | exact (iv_rng _).2 | exact (iv_rng _).1 | decide) (by first | omega | assumption | (show v35.toInt ≤ v36.toInt; omega) | decide) (by first | omega | assumption | (show v36.toInt ≤ (m 124 x0.toInt.toNat).toInt; omega) | decide) kbh (by omega)
          · have c34 := iv_eq (X := v32.toInt) (Y := x1.toInt) c34 rfl rfl
            refine pv_iconst (M := mX12_howOften) (v := 1) dX12_howOften_48 49 rfl (by decide) ?_
            refine pv_goto (M := mX12_howOften) (tgt := 53) dX12_howOften_49 (by decide) ?_
            refine iv_iadd (M := mX12_howOften) (X := y1.toInt) (Y := 1) dX12_howOften_53 54 rfl rfl (by decide) (by omega) (by omega) (fun v38 ev38 => ?_)
            refine pv_istore_n (M := mX12_howOften) 3 (lo2 := [.ref 123, .int x0, .int x1, .int v38, .int y2]) dX12_howOften_54 55 rfl rfl (by decide) rfl rfl ?_
            refine iv_inc (M := mX12_howOften) (C := 1) dX12_howOften_55 58 rfl rfl (by decide) rfl rfl (by decide) (by omega) (by omega) (fun v39 ev39 => ?_)
            show PV _ _ _ _ _ _ _ 58 [.ref 123, .int x0, .int x1, .int v38, .int v39] [] _
            refine pv_goto (M := mX12_howOften) (tgt := 5) dX12_howOften_58 (by decide) ?_
            have kbh : v38.toInt = hof (m 128) (m 125) (40 * x0.toInt.toNat) (40 * x0.toInt.toNat) x1.toInt v39.toInt.toNat := by rw [show v39.toInt.toNat = (y2.toInt).toNat + 1 by omega]; first | (rw [hof_y (k29.symm.trans (i_eq (by rw [Int32.toInt_zero]; omega))) (by rw [← k44]; omega)]; omega) | (rw [hof_n (Or.inl (fun q => by have w := congrArg Int32.toInt (k29.trans q); rw [Int32.toInt_zero] at w; omega))]; omega) | (rw [hof_n (Or.inr (by rw [← k44]; omega))]; omega)
            exact ih9 v38 v39 (by first | omega | assumption | exact (iv_rng _).2 | exact (iv_rng _).1 | decide) (by first | omega | assumption | exact (iv_rng _).2 | exact (iv_rng _).1 | decide) (by first | omega | assumption | exact (iv_rng _).2 | exact (iv_rng _).1 | decide) (by first | omega | assumption | exact (iv_rng _).2 | exact (iv_rng _).1 | decide) (by first | omega | assumption | (show v38.toInt ≤ v39.toInt; omega) | decide) (by first | omega | assumption | (show v39.toInt ≤ (m 124 x0.toInt.toNat).toInt; omega) | decide) kbh (by omega)
  have z41 : (0 : Int32).toInt = 0 := by decide
  have z42 : (0 : Int32).toInt = 0 := by decide
  have kin5 : 0 ≤ (m 124 x0.toInt.toNat).toInt := (I 124 x0.toInt.toNat).1
  exact lp8 (((40 - 0) : Int).toNat + 1) 0 0 (by first | omega | assumption | exact (iv_rng _).2 | exact (iv_rng _).1 | decide) (by first | omega | assumption | exact (iv_rng _).2 | exact (iv_rng _).1 | decide) (by first | omega | assumption | exact (iv_rng _).2 | exact (iv_rng _).1 | decide) (by first | omega | assumption | exact (iv_rng _).2 | exact (iv_rng _).1 | decide) (by first | omega | assumption | (show 0 ≤ 0; omega) | decide) (by first | omega | assumption | (show 0 ≤ (m 124 x0.toInt.toNat).toInt; omega) | decide) (by rw [Int32.toInt_zero]; rfl) (by omega)

set_option maxHeartbeats 2000000 in
set_option maxRecDepth 20000 in
theorem s_X12_isStruckAt_vz (g : pv_G) {T : List mv_T} {m : Nat → Nat → Int32} {n : Nat → Nat → Int64} {r : Nat → Value} (hT : TX T) (I : IV BB m) (x0 : Int32) (hl0 : 0 ≤ x0.toInt) (hh0 : x0.toInt ≤ 7) (x1 : Int32) (hl1 : -1 ≤ x1.toInt) (hh1 : x1.toInt ≤ 40) : PM g mX12_isStruckAt yX12_isStruckAt (sqP (mk T m n r) 0 1 (fun v => v.toInt = gon (m 128) (40 * x0.toInt.toNat) (m 124 x0.toInt.toNat).toInt.toNat x1.toInt)) 1 0 0 [.ref 123, .int x0, .int x1] (mk T m n r) := by
  have Kp : fr (wl []) m m := fr.rf
  refine PM.of 0 (lo := [.ref 123, .int x0, .int x1]) rfl (by decide) rfl rfl (Nat.le_of_ble_eq_true rfl) ?_
  refine pv_iload_n (M := mX12_isStruckAt) 2 dX12_isStruckAt_0 1 rfl rfl rfl ?_
  refine pv_if_lt (M := mX12_isStruckAt) (tgt := 28) dX12_isStruckAt_1 4 rfl (by decide) (fun c1 => ?_) (fun c1 => ?_)
  · have c1 := iv_lt (X := x1.toInt) (Y := 0) c1 rfl (by decide)
    refine pv_iconst (M := mX12_isStruckAt) (v := 1) dX12_isStruckAt_28 29 rfl (by decide) ?_
    refine pv_goto (M := mX12_isStruckAt) (tgt := 33) dX12_isStruckAt_29 (by decide) ?_
    have z2 : (1 : Int32).toInt = 1 := by decide
    exact pv_iret (M := mX12_isStruckAt) dX12_isStruckAt_33 rfl rfl ⟨_, rfl, rfl, by decide, by decide, (by unfold gon; first | (rw [if_pos (by omega)]; decide) | (rw [if_neg (by omega), if_neg (fun q => by have w := congrArg Int32.toInt (k25.trans q); rw [Int32.toInt_zero] at w; omega)]; decide))⟩
  · have c1 := iv_nlt (X := x1.toInt) (Y := 0) c1 rfl (by decide)
    refine pv_iload_n (M := mX12_isStruckAt) 2 dX12_isStruckAt_4 5 rfl rfl rfl ?_
    refine pv_aload_n (M := mX12_isStruckAt) 0 dX12_isStruckAt_5 6 rfl rfl rfl ?_
    refine mv_get (M := mX12_isStruckAt) (v := .ref 124) dX12_isStruckAt_6 FX12 5 wd1178 (by decide) (tl123 hT) rfl rfl 9 rfl ?_
    refine pv_iload_n (M := mX12_isStruckAt) 1 dX12_isStruckAt_9 10 rfl rfl rfl ?_
    refine iv_iald (M := mX12_isStruckAt) (X := x0.toInt) (l1 := 0) (l2 := 40) dX12_isStruckAt_10 (tl124 hT) rfl (by omega) (by omega) I (fun _ => rfl) 11 rfl (fun v3 ev3 pv3 qv3 => ?_)
    have k11 : v3.toInt = (m 124 x0.toInt.toNat).toInt := congrArg Int32.toInt ev3
    refine pv_icmp_ge (M := mX12_isStruckAt) (tgt := 28) dX12_isStruckAt_11 14 rfl (by decide) (fun c5 => ?_) (fun c5 => ?_)
    · have c5 := iv_le (X := v3.toInt) (Y := x1.toInt) c5 rfl rfl
      refine pv_iconst (M := mX12_isStruckAt) (v := 1) dX12_isStruckAt_28 29 rfl (by decide) ?_
      refine pv_goto (M := mX12_isStruckAt) (tgt := 33) dX12_isStruckAt_29 (by decide) ?_
      have z6 : (1 : Int32).toInt = 1 := by decide
      exact pv_iret (M := mX12_isStruckAt) dX12_isStruckAt_33 rfl rfl ⟨_, rfl, rfl, by decide, by decide, (by unfold gon; first | (rw [if_pos (by omega)]; decide) | (rw [if_neg (by omega), if_neg (fun q => by have w := congrArg Int32.toInt (k25.trans q); rw [Int32.toInt_zero] at w; omega)]; decide))⟩
    · have c5 := iv_nle (X := v3.toInt) (Y := x1.toInt) c5 rfl rfl
      refine pv_aload_n (M := mX12_isStruckAt) 0 dX12_isStruckAt_14 15 rfl rfl rfl ?_
      refine mv_get (M := mX12_isStruckAt) (v := .ref 128) dX12_isStruckAt_15 FX12 9 wd1182 (by decide) (tl123 hT) rfl rfl 18 rfl ?_
      refine pv_bipush (M := mX12_isStruckAt) (v := 40) dX12_isStruckAt_18 20 rfl (by decide) ?_
      refine pv_iload_n (M := mX12_isStruckAt) 1 dX12_isStruckAt_20 21 rfl rfl rfl ?_
      refine iv_imul (M := mX12_isStruckAt) (X := 40) (Y := x0.toInt) dX12_isStruckAt_21 22 rfl (by decide) rfl (by omega) (by omega) (fun v7 ev7 => ?_)
      refine pv_iload_n (M := mX12_isStruckAt) 2 dX12_isStruckAt_22 23 rfl rfl rfl ?_
      refine iv_iadd (M := mX12_isStruckAt) (X := v7.toInt) (Y := x1.toInt) dX12_isStruckAt_23 24 rfl rfl rfl (by omega) (by omega) (fun v8 ev8 => ?_)
      refine iv_zald (M := mX12_isStruckAt) (X := v8.toInt) (l1 := 0) (l2 := 1) dX12_isStruckAt_24 (tl128 hT) rfl (by omega) (by omega) I (fun _ => rfl) 25 rfl (fun v9 ev9 pv9 qv9 => ?_)
      have k25 : v9 = m 128 (40 * x0.toInt.toNat + x1.toInt.toNat) := ev9.trans (congrArg (fun z => m 128 z) (by omega))
      refine pv_if_eq (M := mX12_isStruckAt) (tgt := 32) dX12_isStruckAt_25 28 rfl (by decide) (fun c11 => ?_) (fun c11 => ?_)
      · have c11 := iv_eq (X := v9.toInt) (Y := 0) c11 rfl (by decide)
        refine pv_iconst (M := mX12_isStruckAt) (v := 0) dX12_isStruckAt_32 33 rfl (by decide) ?_
        have z12 : (0 : Int32).toInt = 0 := by decide
        exact pv_iret (M := mX12_isStruckAt) dX12_isStruckAt_33 rfl rfl ⟨_, rfl, rfl, by decide, by decide, (by unfold gon; rw [if_neg (by omega), if_pos (k25.symm.trans (i_eq (by rw [Int32.toInt_zero]; omega)))]; decide)⟩
      · have c11 := iv_ne (X := v9.toInt) (Y := 0) c11 rfl (by decide)
        refine pv_iconst (M := mX12_isStruckAt) (v := 1) dX12_isStruckAt_28 29 rfl (by decide) ?_
        refine pv_goto (M := mX12_isStruckAt) (tgt := 33) dX12_isStruckAt_29 (by decide) ?_
        have z13 : (1 : Int32).toInt = 1 := by decide
        exact pv_iret (M := mX12_isStruckAt) dX12_isStruckAt_33 rfl rfl ⟨_, rfl, rfl, by decide, by decide, (by unfold gon; first | (rw [if_pos (by omega)]; decide) | (rw [if_neg (by omega), if_neg (fun q => by have w := congrArg Int32.toInt (k25.trans q); rw [Int32.toInt_zero] at w; omega)]; decide))⟩
